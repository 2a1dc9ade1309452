/-! may a label follow another one; it follows: both sides -/
section FO
variable {G : GT} {d : Nat} {s : ST} {h0 h : AH} {bk dr : Nat} {c : Nat} {B : BK} {D : DY}
theorem oI_m1 {f : Option Nat} (hf : ∀ k, f = some k → k < 2147483648) : (oI f = -1) ↔ f = none := by
  cases f with
  | none => exact ⟨fun _ => rfl, fun _ => rfl⟩
  | some k =>
    refine ⟨fun z => ?_, fun z => nomatch z⟩
    have z : nI k = -1 := z
    rw [ci_eq_m1 (hf k rfl)] at z
    exact z.elim
/-- the answer of who may follow: 1 for yes -/
def mayI (F : Nat → Option Nat) (l k : Nat) (v : Int32) : Prop := (v = nI 1 ∧ ¬ thr F l k) ∨ (v = nI 0 ∧ thr F l k)

set_option maxHeartbeats 4000000 in
set_option maxRecDepth 100000 in
theorem s_may_l (cu : CuR h c B D) (hb : BDok B D) {l t : Nat} (hl : l < 6) (ht : t < 6) : ∀ (n i : Nat) (a : Option Nat), 6 ≤ i + n → i ≤ 6 → itn (dF D) i t = a → (∀ m, m < i → ¬ itn (dF D) m t = some l) → (∀ k, a = some k → k < 6) → RQ G mX3_mayFollow d 5 [some (.ref c), some (.int (nI l)), some (.int (nI t)), some (.int (oI a)), some (.int (nI i))] [] h (Ri fun v h1 => mayI (dF D) l t v ∧ h1 = h) := by
  have ex : ∀ (i : Nat) (a : Option Nat), i = 6 → itn (dF D) i t = a → (∀ m, m < i → ¬ itn (dF D) m t = some l) → (∀ k, a = some k → k < 6) → RQ G mX3_mayFollow d 5 [some (.ref c), some (.int (nI l)), some (.int (nI t)), some (.int (oI a)), some (.int (nI i))] [] h (Ri fun v h1 => mayI (dF D) l t v ∧ h1 = h) := by
    intro i a hi ha hn h6
    subst hi
    obtain ⟨jf, lj, fo, le, u0, u1, u2, u3, u4, u5, u6, u7, u8, u9⟩ := id cu
    refine tX3_mayFollow_5  (r := ?_)
    refine tX3_mayFollow_7  (r := ?_)
    refine tX3_mayFollow_9  (kf := fun c_ => by exfalso; exact c_ (by decide)) (kt := fun _ => ?_)
    refine tX3_mayFollow_37  (r := ?_)
    refine tX3_mayFollow_38 (hb := (Or.inr rfl)) (hP := ?_)
    have e6 := hb.end6 ht
    refine ⟨_, rfl, Or.inl ⟨rfl, fun z => ?_⟩, rfl⟩
    obtain ⟨n, z⟩ := z
    by_cases q : n < 6
    · exact hn n q z
    · rw [itn_mono e6 n (by omega)] at z
      exact nomatch z
  intro n
  induction n with
  | zero => exact fun i a h1_ h2_ => ex i a (by omega)
  | succ n ih =>
    intro i a h1_ h2_ ha hn h6
    by_cases hi : i = 6
    · exact ex i a hi ha hn h6
    have hi2 : i < 6 := by omega
    obtain ⟨jf, lj, fo, le, u0, u1, u2, u3, u4, u5, u6, u7, u8, u9⟩ := id cu
    refine tX3_mayFollow_5  (r := ?_)
    refine tX3_mayFollow_7  (r := ?_)
    refine tX3_mayFollow_9  (kt := fun c_ => by exfalso; exact absurd ((nI_leI (by decide) (by omega)).mp c_) (by omega)) (kf := fun _ => ?_)
    refine tX3_mayFollow_12  (r := ?_)
    refine tX3_mayFollow_13  (r := ?_)
    refine tX3_mayFollow_14  (kt := fun c_14 => ?_) (kf := fun c_14 => ?_)
    · have en : a = none := (oI_m1 (fun k z => by have := h6 k z; omega)).mp c_14
      refine tX3_mayFollow_37  (r := ?_)
      refine tX3_mayFollow_38 (hb := (Or.inr rfl)) (hP := ?_)
      refine ⟨_, rfl, Or.inl ⟨rfl, fun z => ?_⟩, rfl⟩
      obtain ⟨n, z⟩ := z
      by_cases q : n < i
      · exact hn n q z
      · rw [itn_mono (ha.trans en) n (by omega)] at z
        exact nomatch z
    · obtain ⟨k, en⟩ : ∃ k, a = some k := by
        cases z : a with
        | none =>
          rw [z] at c_14
          exact absurd rfl c_14
        | some k => exact ⟨k, rfl⟩
      have k6 := h6 k en
      subst en
      refine tX3_mayFollow_17  (r := ?_)
      refine tX3_mayFollow_18  (r := ?_)
      refine tX3_mayFollow_19  (kt := fun c_19 => ?_) (kf := fun c_19 => ?_)
      · have nl_ : ¬ k = l := fun z => c_19 (by rw [z]; rfl)
        refine tX3_mayFollow_24  (r := ?_)
        refine tX3_mayFollow_25 (ha := (by first | assumption | (repeat (first | assumption | exact At.set_eq2 (by first | omega | (simp only [hset, hnew]; omega) | rfl | decide) | exact At.new_eq2 _ _ (by first | omega | (simp only [hset, hnew]; omega) | rfl | decide) | refine At.set_ne ?_ (by first | omega | (simp only [hset, hnew]; omega) | rfl | decide) | refine At.new_ne ?_)))) (hv := rfl) (r := ?_)
        refine tX3_mayFollow_28  (r := ?_)
        refine tX3_mayFollow_29 (ha := (by first | assumption | (repeat (first | assumption | exact At.set_eq2 (by first | omega | (simp only [hset, hnew]; omega) | rfl | decide) | exact At.new_eq2 _ _ (by first | omega | (simp only [hset, hnew]; omega) | rfl | decide) | refine At.set_ne ?_ (by first | omega | (simp only [hset, hnew]; omega) | rfl | decide) | refine At.new_ne ?_)))) (hx := rfl) (hj := k6) (hn := (by decide)) (r := ?_)
        rw [u7 _ k6]
        refine tX3_mayFollow_30  (r := ?_)
        refine tX3_mayFollow_31  (r := ?_)
        rw [nI_add]
        refine tX3_mayFollow_34 (r := ?_)
        refine ih (i + 1) _ (by omega) (by omega) (itn_next ha) (fun m hm z => ?_) (fun j z => hb.six k j k6 z)
        by_cases e : m = i
        · rw [e, ha] at z
          cases z
          exact nl_ rfl
        · exact hn m (by omega) z
      · have el : k = l := (nI_eq (by omega) (by omega)).mp c_19
        refine tX3_mayFollow_22  (r := ?_)
        refine tX3_mayFollow_23 (hb := (Or.inl rfl)) (hP := ?_)
        exact ⟨_, rfl, Or.inr ⟨rfl, i, by rw [ha, el]⟩, rfl⟩

set_option maxHeartbeats 4000000 in
set_option maxRecDepth 100000 in
theorem s_may (cu : CuR h c B D) (hb : BDok B D) {l t : Nat} (hl : l < 6) (ht : t < 6) : RQ G mX3_mayFollow d 0 [some (.ref c), some (.int (nI l)), some (.int (nI t)), none, none] [] h (Ri fun v h1 => mayI (dF D) l t v ∧ h1 = h) := by
  refine tX3_mayFollow_0  (r := ?_)
  refine tX3_mayFollow_1  (r := ?_)
  refine tX3_mayFollow_2  (r := ?_)
  refine tX3_mayFollow_3  (r := ?_)
  exact s_may_l cu hb hl ht 6 0 (some t) (by omega) (by omega) rfl (fun m hm => absurd hm (Nat.not_lt_zero m)) (fun k e => by cases e; exact ht)

theorem rtn_lt {F : Nat → Option Nat} (hF : ∀ k j, k < 6 → F k = some j → j < 6) : ∀ n k, k < 6 → rtn F n k < 6
  | 0, _, h => h
  | n + 1, k, h => by
    cases e : F k with
    | none =>
      rw [rtn_no e]
      exact h
    | some j =>
      rw [rtn_yes e]
      exact rtn_lt hF n j (hF k j h e)

set_option maxHeartbeats 4000000 in
set_option maxRecDepth 100000 in
theorem s_follow_in {F : Nat → Option Nat} {gf : Nat → Int32} {dy : Int32} (u0 : At h c (.inr (2, [.ref (c + 1), .ref (c + 2), .ref (c + 3), .ref (c + 4), .int dy]))) (u3 : At h (c + 3) (.inl (0, 6, .inl gf))) (hg : ∀ k, k < 6 → gf k = oI (F k)) (hF : ∀ k j, k < 6 → F k = some j → j < 6) {e0 : Nat} (he0 : e0 < 6) (e6 : F (rt F e0) = none) {x1 x2 : Option Value} {P : OC → AH → Prop} (kk : ∀ y : Option Value, RQ G mX3_follow d 54 [some (.ref c), x1, x2, some (.int (nI e0)), some (.int (nI (rt F e0))), y] [] h P) : ∀ (n i : Nat) , 6 ≤ i + n → i ≤ 6 → rtn F i e0 < 6 → RQ G mX3_follow d 21 [some (.ref c), x1, x2, some (.int (nI e0)), some (.int (nI (rtn F i e0))), some (.int (nI i))] [] h (P) := by
  have ex : ∀ (i : Nat) , i = 6 → rtn F i e0 < 6 → RQ G mX3_follow d 21 [some (.ref c), x1, x2, some (.int (nI e0)), some (.int (nI (rtn F i e0))), some (.int (nI i))] [] h (P) := by
    intro i  hi hi6
    subst hi
    refine tX3_follow_21  (r := ?_)
    refine tX3_follow_23  (r := ?_)
    refine tX3_follow_25  (kf := fun c_ => by exfalso; exact c_ (by decide)) (kt := fun _ => ?_)
    exact kk _
  intro n
  induction n with
  | zero => exact fun i  h1_ h2_ => ex i  (by omega)
  | succ n ih =>
    intro i  h1_ h2_ hi6
    by_cases hi : i = 6
    · exact ex i  hi hi6
    have hi2 : i < 6 := by omega
    refine tX3_follow_21  (r := ?_)
    refine tX3_follow_23  (r := ?_)
    refine tX3_follow_25  (kt := fun c_ => by exfalso; exact absurd ((nI_leI (by decide) (by omega)).mp c_) (by omega)) (kf := fun _ => ?_)
    refine tX3_follow_28  (r := ?_)
    refine tX3_follow_29 (ha := (by first | assumption | (repeat (first | assumption | exact At.set_eq2 (by first | omega | (simp only [hset, hnew]; omega) | rfl | decide) | exact At.new_eq2 _ _ (by first | omega | (simp only [hset, hnew]; omega) | rfl | decide) | refine At.set_ne ?_ (by first | omega | (simp only [hset, hnew]; omega) | rfl | decide) | refine At.new_ne ?_)))) (hv := rfl) (r := ?_)
    refine tX3_follow_32  (r := ?_)
    refine tX3_follow_34 (ha := (by first | assumption | (repeat (first | assumption | exact At.set_eq2 (by first | omega | (simp only [hset, hnew]; omega) | rfl | decide) | exact At.new_eq2 _ _ (by first | omega | (simp only [hset, hnew]; omega) | rfl | decide) | refine At.set_ne ?_ (by first | omega | (simp only [hset, hnew]; omega) | rfl | decide) | refine At.new_ne ?_)))) (hx := rfl) (hj := hi6) (hn := (by decide)) (r := ?_)
    rw [hg _ hi6]
    refine tX3_follow_35  (r := ?_)
    refine tX3_follow_36  (kt := fun c_36 => ?_) (kf := fun c_36 => ?_)
    · have en : F (rtn F i e0) = none := (oI_m1 (fun k z => by have := hF _ k hi6 z; omega)).mp c_36
      have er : rt F e0 = rtn F i e0 := rtn_done en 6 (by omega)
      rw [← er]
      exact kk _
    · obtain ⟨k, en⟩ : ∃ k, F (rtn F i e0) = some k := by
        cases z : F (rtn F i e0) with
        | none =>
          rw [z] at c_36
          exact absurd rfl c_36
        | some k => exact ⟨k, rfl⟩
      have er : rtn F (i + 1) e0 = k := by rw [rtn_next, en]
      have k6 := hF _ k hi6 en
      refine tX3_follow_39  (r := ?_)
      refine tX3_follow_40 (ha := (by first | assumption | (repeat (first | assumption | exact At.set_eq2 (by first | omega | (simp only [hset, hnew]; omega) | rfl | decide) | exact At.new_eq2 _ _ (by first | omega | (simp only [hset, hnew]; omega) | rfl | decide) | refine At.set_ne ?_ (by first | omega | (simp only [hset, hnew]; omega) | rfl | decide) | refine At.new_ne ?_)))) (hv := rfl) (r := ?_)
      refine tX3_follow_43  (r := ?_)
      refine tX3_follow_45 (ha := (by first | assumption | (repeat (first | assumption | exact At.set_eq2 (by first | omega | (simp only [hset, hnew]; omega) | rfl | decide) | exact At.new_eq2 _ _ (by first | omega | (simp only [hset, hnew]; omega) | rfl | decide) | refine At.set_ne ?_ (by first | omega | (simp only [hset, hnew]; omega) | rfl | decide) | refine At.new_ne ?_)))) (hx := rfl) (hj := hi6) (hn := (by decide)) (r := ?_)
      rw [hg _ hi6, en]
      refine tX3_follow_46  (r := ?_)
      refine tX3_follow_48  (r := ?_)
      rw [nI_add]
      refine tX3_follow_51 (r := ?_)
      have key := ih (i + 1) (by omega) (by omega) (by rw [er]; exact k6)
      rw [er] at key
      exact key

set_option maxHeartbeats 4000000 in
set_option maxRecDepth 100000 in
theorem s_follow_out {F : Nat → Option Nat} {gf : Nat → Int32} {dy : Int32} (u0 : At h0 c (.inr (2, [.ref (c + 1), .ref (c + 2), .ref (c + 3), .ref (c + 4), .int dy]))) (u3 : At h0 (c + 3) (.inl (0, 6, .inl gf))) (hg : ∀ k, k < 6 → gf k = oI (F k)) (hF : ∀ k j, k < 6 → F k = some j → j < 6) (hE : ∀ k, k < 6 → F (rt F k) = none) {x1 : Option Value} {z2 : Int32} {P : OC → AH → Prop} (kk : ∀ (h : AH) (lef : Nat → Int32) (x4 x5 : Option Value), At h (c + 4) (.inl (0, 6, .inl lef)) → (∀ k, k < 6 → lef k = nI (rt F k)) → Sm h0 h (c + 4) (c + 5) → RQ G mX3_follow d 68 [some (.ref c), x1, some (.int z2), some (.int (nI 6)), x4, x5] [] h P) : ∀ (n i : Nat) (h : AH) (lef : Nat → Int32) (x4 x5 : Option Value), 6 ≤ i + n → i ≤ 6 → At h (c + 4) (.inl (0, 6, .inl lef)) → (∀ k, k < i → lef k = nI (rt F k)) → Sm h0 h (c + 4) (c + 5) → RQ G mX3_follow d 9 [some (.ref c), x1, some (.int z2), some (.int (nI i)), x4, x5] [] h (P) := by
  have ex : ∀ (i : Nat) (h : AH) (lef : Nat → Int32) (x4 x5 : Option Value), i = 6 → At h (c + 4) (.inl (0, 6, .inl lef)) → (∀ k, k < i → lef k = nI (rt F k)) → Sm h0 h (c + 4) (c + 5) → RQ G mX3_follow d 9 [some (.ref c), x1, some (.int z2), some (.int (nI i)), x4, x5] [] h (P) := by
    intro i h lef x4 x5 hi u4 hl4 sm
    subst hi
    refine tX3_follow_9  (r := ?_)
    refine tX3_follow_10  (r := ?_)
    refine tX3_follow_12  (kf := fun c_ => by exfalso; exact c_ (by decide)) (kt := fun _ => ?_)
    exact kk h lef x4 x5 u4 hl4 sm
  intro n
  induction n with
  | zero => exact fun i h lef x4 x5 h1_ h2_ => ex i h lef x4 x5 (by omega)
  | succ n ih =>
    intro i h lef x4 x5 h1_ h2_ u4 hl4 sm
    by_cases hi : i = 6
    · exact ex i h lef x4 x5 hi u4 hl4 sm
    have hi2 : i < 6 := by omega
    refine tX3_follow_9  (r := ?_)
    refine tX3_follow_10  (r := ?_)
    refine tX3_follow_12  (kt := fun c_ => by exfalso; exact absurd ((nI_leI (by decide) (by omega)).mp c_) (by omega)) (kf := fun _ => ?_)
    refine tX3_follow_15  (r := ?_)
    refine tX3_follow_16  (r := ?_)
    refine tX3_follow_18  (r := ?_)
    refine tX3_follow_19  (r := ?_)
    have v0 := sm.at u0 (by omega)
    have v3 := sm.at u3 (by omega)
    have key := s_follow_in (G := G) (d := d) (x1 := x1) (x2 := some (.int z2)) (P := P) v0 v3 hg hF hi2 (hE i hi2) (fun y => ?_) 6 0 (by omega) (by omega) hi2
    · exact key
    refine tX3_follow_54  (r := ?_)
    refine tX3_follow_55 (ha := (by first | assumption | (repeat (first | assumption | exact At.set_eq2 (by first | omega | (simp only [hset, hnew]; omega) | rfl | decide) | exact At.new_eq2 _ _ (by first | omega | (simp only [hset, hnew]; omega) | rfl | decide) | refine At.set_ne ?_ (by first | omega | (simp only [hset, hnew]; omega) | rfl | decide) | refine At.new_ne ?_)))) (hv := rfl) (r := ?_)
    refine tX3_follow_58  (r := ?_)
    refine tX3_follow_59  (r := ?_)
    refine tX3_follow_61 (ha := (by first | assumption | (repeat (first | assumption | exact At.set_eq2 (by first | omega | (simp only [hset, hnew]; omega) | rfl | decide) | exact At.new_eq2 _ _ (by first | omega | (simp only [hset, hnew]; omega) | rfl | decide) | refine At.set_ne ?_ (by first | omega | (simp only [hset, hnew]; omega) | rfl | decide) | refine At.new_ne ?_)))) (hx := rfl) (hj := hi2) (hn := (by decide)) (r := ?_)
    refine tX3_follow_62  (r := ?_)
    rw [nI_add]
    refine tX3_follow_65 (r := ?_)
    refine ih (i + 1) _ _ _ _ (by omega) (by omega) (At.set_eq2 u4.1) (fun k hk => ?_) (sm.set (by omega) (by omega))
    show (if k = i then nI (rt F i) else lef k) = nI (rt F k)
    by_cases e : k = i
    · rw [if_pos e, e]
    · rw [if_neg e, hl4 k (by omega)]

set_option maxHeartbeats 4000000 in
set_option maxRecDepth 100000 in
theorem s_follow_jars {l : Nat} {t : Option Nat} {jf : Nat → Option Nat} {lj fo le : Nat → Int32} (u5 : ∀ i, i < 8 → jf i = some (c + 5 + 5 * i)) (u6 : ∀ i, i < 6 → lj i = nI (dL D i)) (u7 : ∀ i, i < 6 → fo i = oI (fwF (dF D) l t i)) (u8 : ∀ i, i < 6 → le i = nI (rt (fwF (dF D) l t) i)) {x1 x4 x5 : Option Value} {z2 : Int32} : ∀ (n i : Nat) (h : AH), 8 ≤ i + n → i ≤ 8 → At h c (.inr (2, [.ref (c + 1), .ref (c + 2), .ref (c + 3), .ref (c + 4), .int (dDay D)])) → At h (c + 1) (.inl (3, 8, .inr (.inr (.inr (.inr jf))))) → At h (c + 2) (.inl (0, 6, .inl lj)) → At h (c + 3) (.inl (0, 6, .inl fo)) → At h (c + 4) (.inl (0, 6, .inl le)) → (∀ j, j < 8 → JaR h (c + 5 + 5 * j) (dB D j) (bSe B j) (bWy B j) (if j < i then (rt (fwF (dF D) l t)) else rt (dF D))) → Sm h0 h c (c + 45) → RQ G mX3_follow d 70 [some (.ref c), x1, some (.int z2), some (.int (nI i)), x4, x5] [] h (Rv fun h1 => CuR h1 c B (fwD D l t) ∧ Sm h0 h1 c (c + 45)) := by
  have ex : ∀ (i : Nat) (h : AH), i = 8 → At h c (.inr (2, [.ref (c + 1), .ref (c + 2), .ref (c + 3), .ref (c + 4), .int (dDay D)])) → At h (c + 1) (.inl (3, 8, .inr (.inr (.inr (.inr jf))))) → At h (c + 2) (.inl (0, 6, .inl lj)) → At h (c + 3) (.inl (0, 6, .inl fo)) → At h (c + 4) (.inl (0, 6, .inl le)) → (∀ j, j < 8 → JaR h (c + 5 + 5 * j) (dB D j) (bSe B j) (bWy B j) (if j < i then (rt (fwF (dF D) l t)) else rt (dF D))) → Sm h0 h c (c + 45) → RQ G mX3_follow d 70 [some (.ref c), x1, some (.int z2), some (.int (nI i)), x4, x5] [] h (Rv fun h1 => CuR h1 c B (fwD D l t) ∧ Sm h0 h1 c (c + 45)) := by
    intro i h hi u0 u1 u2 u3 u4 u9 sm
    subst hi
    refine tX3_follow_70  (r := ?_)
    refine tX3_follow_71  (r := ?_)
    refine tX3_follow_73  (kf := fun c_ => by exfalso; exact c_ (by decide)) (kt := fun _ => ?_)
    refine tX3_follow_92  (hP := ?_)
    exact ⟨rfl, ⟨jf, lj, fo, le, u0, u1, u2, u3, u4, u5, u6, u7, u8, fun i hi => by have key := u9 i hi; rw [if_pos hi] at key; exact key⟩, sm⟩
  intro n
  induction n with
  | zero => exact fun i h h1_ h2_ => ex i h (by omega)
  | succ n ih =>
    intro i h h1_ h2_ u0 u1 u2 u3 u4 u9 sm
    by_cases hi : i = 8
    · exact ex i h hi u0 u1 u2 u3 u4 u9 sm
    have hi2 : i < 8 := by omega
    refine tX3_follow_70  (r := ?_)
    refine tX3_follow_71  (r := ?_)
    refine tX3_follow_73  (kt := fun c_ => by exfalso; exact absurd ((nI_leI (by decide) (by omega)).mp c_) (by omega)) (kf := fun _ => ?_)
    refine tX3_follow_76  (r := ?_)
    refine tX3_follow_77 (ha := (by first | assumption | (repeat (first | assumption | exact At.set_eq2 (by first | omega | (simp only [hset, hnew]; omega) | rfl | decide) | exact At.new_eq2 _ _ (by first | omega | (simp only [hset, hnew]; omega) | rfl | decide) | refine At.set_ne ?_ (by first | omega | (simp only [hset, hnew]; omega) | rfl | decide) | refine At.new_ne ?_)))) (hv := rfl) (r := ?_)
    obtain ⟨bf, p, w, l_, tu, fi, ma, co, ⟨b0, b1, b2, b3, b4⟩, hbf, -⟩ := id (u9 i hi2)
    have l0 := b0.1
    refine tX3_follow_80  (r := ?_)
    refine tX3_follow_81 (ha := (by first | assumption | (repeat (first | assumption | exact At.set_eq2 (by first | omega | (simp only [hset, hnew]; omega) | rfl | decide) | exact At.new_eq2 _ _ (by first | omega | (simp only [hset, hnew]; omega) | rfl | decide) | refine At.set_ne ?_ (by first | omega | (simp only [hset, hnew]; omega) | rfl | decide) | refine At.new_ne ?_)))) (hx := rfl) (hj := hi2) (hn := (by decide)) (hf := (u5 _ hi2)) (r := ?_)
    refine tX3_follow_82  (r := ?_)
    refine tX3_follow_83 (ha := (by first | assumption | (repeat (first | assumption | exact At.set_eq2 (by first | omega | (simp only [hset, hnew]; omega) | rfl | decide) | exact At.new_eq2 _ _ (by first | omega | (simp only [hset, hnew]; omega) | rfl | decide) | refine At.set_ne ?_ (by first | omega | (simp only [hset, hnew]; omega) | rfl | decide) | refine At.new_ne ?_)))) (hlen := rfl) (hb := (by first | exact Or.inl rfl | exact Or.inr rfl | assumption)) (r := ?_)
    refine tX3_follow_86  (r := ?_)
    rw [nI_add]
    refine tX3_follow_89 (r := ?_)
    refine ih (i + 1) _ (by omega) (by omega) (by (first | assumption | (repeat (first | assumption | exact At.set_eq2 (by (first | omega | (simp only [hset, hnew]; omega) | rfl | decide)) | exact At.new_eq2 _ _ (by (first | omega | (simp only [hset, hnew]; omega) | rfl | decide)) | refine At.set_ne ?_ (by (first | omega | (simp only [hset, hnew]; omega) | rfl | decide)) | refine At.new_ne ?_)))) (by (first | assumption | (repeat (first | assumption | exact At.set_eq2 (by (first | omega | (simp only [hset, hnew]; omega) | rfl | decide)) | exact At.new_eq2 _ _ (by (first | omega | (simp only [hset, hnew]; omega) | rfl | decide)) | refine At.set_ne ?_ (by (first | omega | (simp only [hset, hnew]; omega) | rfl | decide)) | refine At.new_ne ?_)))) (by (first | assumption | (repeat (first | assumption | exact At.set_eq2 (by (first | omega | (simp only [hset, hnew]; omega) | rfl | decide)) | exact At.new_eq2 _ _ (by (first | omega | (simp only [hset, hnew]; omega) | rfl | decide)) | refine At.set_ne ?_ (by (first | omega | (simp only [hset, hnew]; omega) | rfl | decide)) | refine At.new_ne ?_)))) (by (first | assumption | (repeat (first | assumption | exact At.set_eq2 (by (first | omega | (simp only [hset, hnew]; omega) | rfl | decide)) | exact At.new_eq2 _ _ (by (first | omega | (simp only [hset, hnew]; omega) | rfl | decide)) | refine At.set_ne ?_ (by (first | omega | (simp only [hset, hnew]; omega) | rfl | decide)) | refine At.new_ne ?_)))) (by (first | assumption | (repeat (first | assumption | exact At.set_eq2 (by (first | omega | (simp only [hset, hnew]; omega) | rfl | decide)) | exact At.new_eq2 _ _ (by (first | omega | (simp only [hset, hnew]; omega) | rfl | decide)) | refine At.set_ne ?_ (by (first | omega | (simp only [hset, hnew]; omega) | rfl | decide)) | refine At.new_ne ?_)))) (fun j hj => ?_) (sm.set (by omega) (by omega))
    by_cases e : j = i
    · subst e
      rw [if_pos (Nat.lt_succ_self _)]
      exact ⟨bf, p, w, l_, tu, fi, ma, nI 0, ⟨At.set_eq2 l0, by (first | assumption | (repeat (first | assumption | exact At.set_eq2 (by (first | omega | (simp only [hset, hnew]; omega) | rfl | decide)) | exact At.new_eq2 _ _ (by (first | omega | (simp only [hset, hnew]; omega) | rfl | decide)) | refine At.set_ne ?_ (by (first | omega | (simp only [hset, hnew]; omega) | rfl | decide)) | refine At.new_ne ?_))), by (first | assumption | (repeat (first | assumption | exact At.set_eq2 (by (first | omega | (simp only [hset, hnew]; omega) | rfl | decide)) | exact At.new_eq2 _ _ (by (first | omega | (simp only [hset, hnew]; omega) | rfl | decide)) | refine At.set_ne ?_ (by (first | omega | (simp only [hset, hnew]; omega) | rfl | decide)) | refine At.new_ne ?_))), by (first | assumption | (repeat (first | assumption | exact At.set_eq2 (by (first | omega | (simp only [hset, hnew]; omega) | rfl | decide)) | exact At.new_eq2 _ _ (by (first | omega | (simp only [hset, hnew]; omega) | rfl | decide)) | refine At.set_ne ?_ (by (first | omega | (simp only [hset, hnew]; omega) | rfl | decide)) | refine At.new_ne ?_))), by (first | assumption | (repeat (first | assumption | exact At.set_eq2 (by (first | omega | (simp only [hset, hnew]; omega) | rfl | decide)) | exact At.new_eq2 _ _ (by (first | omega | (simp only [hset, hnew]; omega) | rfl | decide)) | refine At.set_ne ?_ (by (first | omega | (simp only [hset, hnew]; omega) | rfl | decide)) | refine At.new_ne ?_)))⟩, hbf, Or.inl rfl⟩
    · have key := (u9 j hj).keep (h' := hset h (c + 5 + 5 * i) (.inr (3, [.ref (c + 5 + 5 * i + 1), .ref (c + 5 + 5 * i + 2), .ref (c + 5 + 5 * i + 3), .ref (c + 5 + 5 * i + 4), .int (nI (bSe B i)), .ref (OLD + (24 + bWy B i)), .int tu, .int fi, .int ma, .int (nI 0)]))) (Nat.le_refl _) (Un.set (Un.rf _ _ _) (by omega))
      by_cases e2 : j < i
      · rw [if_pos e2] at key
        rw [if_pos (by omega)]
        exact key
      · rw [if_neg e2] at key
        rw [if_neg (by omega)]
        exact key

set_option maxHeartbeats 4000000 in
set_option maxRecDepth 100000 in
theorem s_follow (cu : CuR h0 c B D) (hb : BDok B D) {l : Nat} {t : Option Nat} (hl : l < bLa B) (ht : ∀ j, t = some j → j < bLa B ∧ ¬ thr (dF D) l j) : RQ G mX3_follow d 0 [some (.ref c), some (.int (nI l)), some (.int (oI t)), none, none, none] [] h0 (Rv fun h1 => CuR h1 c B (fwD D l t) ∧ Sm h0 h1 c (c + 45)) := by
  obtain ⟨jf, lj, fo, le, u0, u1, u2, u3, u4, u5, u6, u7, u8, u9⟩ := id cu
  have l1 := hb.1
  have hb2 := hb.fw hl ht
  have m3 := u3.1
  have m4 := u4.1
  refine tX3_follow_0  (r := ?_)
  refine tX3_follow_1 (ha := (by first | assumption | (repeat (first | assumption | exact At.set_eq2 (by first | omega | (simp only [hset, hnew]; omega) | rfl | decide) | exact At.new_eq2 _ _ (by first | omega | (simp only [hset, hnew]; omega) | rfl | decide) | refine At.set_ne ?_ (by first | omega | (simp only [hset, hnew]; omega) | rfl | decide) | refine At.new_ne ?_)))) (hv := rfl) (r := ?_)
  refine tX3_follow_4  (r := ?_)
  refine tX3_follow_5  (r := ?_)
  refine tX3_follow_6 (ha := (by first | assumption | (repeat (first | assumption | exact At.set_eq2 (by first | omega | (simp only [hset, hnew]; omega) | rfl | decide) | exact At.new_eq2 _ _ (by first | omega | (simp only [hset, hnew]; omega) | rfl | decide) | refine At.set_ne ?_ (by first | omega | (simp only [hset, hnew]; omega) | rfl | decide) | refine At.new_ne ?_)))) (hx := rfl) (hj := (by omega)) (hn := (by decide)) (r := ?_)
  refine tX3_follow_7  (r := ?_)
  refine tX3_follow_8  (r := ?_)
  have sm1 := (Sm.rf h0 c (c + 45)).set (i := c + 3) (c := .inl (0, 6, .inl (upd fo l (oI t)))) (by omega) (by omega)
  have u7' : ∀ k, k < 6 → upd fo l (oI t) k = oI (fwF (dF D) l t k) := fun k hk => by
    show (if k = l then oI t else fo k) = oI (if k = l then t else dF D k)
    by_cases e : k = l
    · rw [if_pos e, if_pos e]
    · rw [if_neg e, if_neg e, u7 k hk]
  refine s_follow_out (h0 := hset h0 (c + 3) (.inl (0, 6, .inl (upd fo l (oI t))))) (F := fwF (dF D) l t) (by (first | assumption | (repeat (first | assumption | exact At.set_eq2 (by (first | omega | (simp only [hset, hnew]; omega) | rfl | decide)) | exact At.new_eq2 _ _ (by (first | omega | (simp only [hset, hnew]; omega) | rfl | decide)) | refine At.set_ne ?_ (by (first | omega | (simp only [hset, hnew]; omega) | rfl | decide)) | refine At.new_ne ?_)))) (At.set_eq2 m3) u7' hb2.six hb2.2.2.2.2.2.2.2.2.2.1 (fun h1 lef x4 x5 w4 wl sm2 => ?_) 6 0 _ le none none (by omega) (by omega) (by (first | assumption | (repeat (first | assumption | exact At.set_eq2 (by (first | omega | (simp only [hset, hnew]; omega) | rfl | decide)) | exact At.new_eq2 _ _ (by (first | omega | (simp only [hset, hnew]; omega) | rfl | decide)) | refine At.set_ne ?_ (by (first | omega | (simp only [hset, hnew]; omega) | rfl | decide)) | refine At.new_ne ?_)))) (fun k hk => absurd hk (Nat.not_lt_zero k)) (Sm.rf _ _ _)
  have sm3 := sm1.trans (sm2.sub (lo2 := c) (hi2 := c + 45) (by omega) (by omega))
  have v0 := sm2.at (At.set_ne (i := c + 3) (c := .inl (0, 6, .inl (upd fo l (oI t)))) u0 (by omega)) (by omega)
  have v1 := sm2.at (At.set_ne (i := c + 3) (c := .inl (0, 6, .inl (upd fo l (oI t)))) u1 (by omega)) (by omega)
  have v2 := sm2.at (At.set_ne (i := c + 3) (c := .inl (0, 6, .inl (upd fo l (oI t)))) u2 (by omega)) (by omega)
  have v3 := sm2.at (At.set_eq2 (c := .inl (0, 6, .inl (upd fo l (oI t)))) m3) (by omega)
  refine tX3_follow_68 (r := ?_)
  refine tX3_follow_69 (r := ?_)
  refine s_follow_jars u5 u6 u7' wl 8 0 h1 (by omega) (by omega) v0 v1 v2 v3 w4 (fun j hj => ?_) sm3
  rw [if_neg (Nat.not_lt_zero j)]
  exact ((u9 j hj).keep (h' := hset h0 (c + 3) (.inl (0, 6, .inl (upd fo l (oI t))))) (Nat.le_refl _) (Un.set (Un.rf _ _ _) (by omega))).sm sm2 (by omega)

set_option maxHeartbeats 4000000 in
set_option maxRecDepth 100000 in
theorem k_join_ok (hd : 7 ≤ d) (c : ClR h 0 bk dr s) (hb : BDok s.2.2.1 s.2.2.2) (hh : 216 ≤ h.1) {j0 : Nat} (q0 : j0 < bLa s.2.2.1) {j1 : Nat} (q1 : j1 < bLa s.2.2.1) (g : ¬ thr (dF s.2.2.2) j0 j1) : RQ G mX10_join d 0 [some (.ref 0), some (.int (nI j0)), some (.int (nI j1))] [] h (CK h bk dr (s.1, s.2.1, s.2.2.1, (fwD s.2.2.2 j0 (some j1))) "java/lang/IndexOutOfBoundsException" "java/lang/IllegalStateException" 0 (nI (rt (dF (fwD s.2.2.2 j0 (some j1))) j0))) := by
  have c1 := c.poll
  have cb := c.book
  obtain ⟨jf, lj, fo, le, u0, u1, u2, u3, u4, u5, u6, u7, u8, u9⟩ := id c.2.2.2.2.1
  have l1 := hb.1
  have l2 := hb.2.1
  have l3 := hb.2.2.1
  refine tX10_join_0  (r := ?_)
  refine tX10_join_1  (r := ?_)
  refine tX10_join_2 (hd := (by omega)) (ha := (by first | assumption | (repeat (first | assumption | exact At.set_eq2 (by first | omega | (simp only [hset, hnew]; omega) | rfl | decide) | exact At.new_eq2 _ _ (by first | omega | (simp only [hset, hnew]; omega) | rfl | decide) | refine At.set_ne ?_ (by first | omega | (simp only [hset, hnew]; omega) | rfl | decide) | refine At.new_ne ?_)))) (call := s_checkLabel_ok (d := 6) (QX := fun _ _ => False) c hb q0) (kx := fun E_ h_ hx_ => by exact hx_.elim) (k := ?_)
  intro h_ e0
  rw [e0]
  refine tX10_join_5  (r := ?_)
  refine tX10_join_6  (r := ?_)
  refine tX10_join_7 (hd := (by omega)) (ha := (by first | assumption | (repeat (first | assumption | exact At.set_eq2 (by first | omega | (simp only [hset, hnew]; omega) | rfl | decide) | exact At.new_eq2 _ _ (by first | omega | (simp only [hset, hnew]; omega) | rfl | decide) | refine At.set_ne ?_ (by first | omega | (simp only [hset, hnew]; omega) | rfl | decide) | refine At.new_ne ?_)))) (call := s_checkLabel_ok (d := 6) (QX := fun _ _ => False) c hb q1) (kx := fun E_ h_ hx_ => by exact hx_.elim) (k := ?_)
  intro h_ e1
  rw [e1]
  refine tX10_join_10  (r := ?_)
  refine tX10_join_11 (ha := (by first | assumption | (repeat (first | assumption | exact At.set_eq2 (by first | omega | (simp only [hset, hnew]; omega) | rfl | decide) | exact At.new_eq2 _ _ (by first | omega | (simp only [hset, hnew]; omega) | rfl | decide) | refine At.set_ne ?_ (by first | omega | (simp only [hset, hnew]; omega) | rfl | decide) | refine At.new_ne ?_)))) (hv := rfl) (r := ?_)
  refine tX10_join_14  (r := ?_)
  refine tX10_join_15  (r := ?_)
  refine tX10_join_16 (hd := (by omega)) (ha := (by first | assumption | (repeat (first | assumption | exact At.set_eq2 (by first | omega | (simp only [hset, hnew]; omega) | rfl | decide) | exact At.new_eq2 _ _ (by first | omega | (simp only [hset, hnew]; omega) | rfl | decide) | refine At.set_ne ?_ (by first | omega | (simp only [hset, hnew]; omega) | rfl | decide) | refine At.new_ne ?_)))) (call := s_may (d := 6) c.2.2.2.2.1 hb (show j0 < 6 by omega) (show j1 < 6 by omega)) (k := ?_)
  rintro v_ h_ ⟨my, e9⟩
  rw [e9]
  refine tX10_join_19  (kf := fun c_ => by exfalso; exact Or.elim my (fun z => by rw [z.1] at c_; exact absurd c_ (by decide)) (fun z => g z.2)) (kt := fun _ => ?_)
  refine tX10_join_30  (r := ?_)
  refine tX10_join_31 (ha := (by first | assumption | (repeat (first | assumption | exact At.set_eq2 (by first | omega | (simp only [hset, hnew]; omega) | rfl | decide) | exact At.new_eq2 _ _ (by first | omega | (simp only [hset, hnew]; omega) | rfl | decide) | refine At.set_ne ?_ (by first | omega | (simp only [hset, hnew]; omega) | rfl | decide) | refine At.new_ne ?_)))) (hv := rfl) (r := ?_)
  refine tX10_join_34  (r := ?_)
  refine tX10_join_35  (r := ?_)
  refine tX10_join_36 (hd := (by omega)) (ha := (by first | assumption | (repeat (first | assumption | exact At.set_eq2 (by first | omega | (simp only [hset, hnew]; omega) | rfl | decide) | exact At.new_eq2 _ _ (by first | omega | (simp only [hset, hnew]; omega) | rfl | decide) | refine At.set_ne ?_ (by first | omega | (simp only [hset, hnew]; omega) | rfl | decide) | refine At.new_ne ?_)))) (call := s_follow (d := 6) (t := some j1) c.2.2.2.2.1 hb q0 (fun j z => by cases z; exact ⟨q1, g⟩)) (k := ?_)
  intro h1 hq
  obtain ⟨cu, sm⟩ := hq
  have cl := c.now cu sm (by omega) (by omega)
  obtain ⟨jf', lj', fo', le', v0, v1, v2, v3, v4, v5, v6, v7, v8, v9⟩ := id cu
  have c1 := cl.poll
  refine tX10_join_39  (r := ?_)
  refine tX10_join_40 (ha := (by first | assumption | (repeat (first | assumption | exact At.set_eq2 (by first | omega | (simp only [hset, hnew]; omega) | rfl | decide) | exact At.new_eq2 _ _ (by first | omega | (simp only [hset, hnew]; omega) | rfl | decide) | refine At.set_ne ?_ (by first | omega | (simp only [hset, hnew]; omega) | rfl | decide) | refine At.new_ne ?_)))) (hv := rfl) (r := ?_)
  refine tX10_join_43 (ha := (by first | assumption | (repeat (first | assumption | exact At.set_eq2 (by first | omega | (simp only [hset, hnew]; omega) | rfl | decide) | exact At.new_eq2 _ _ (by first | omega | (simp only [hset, hnew]; omega) | rfl | decide) | refine At.set_ne ?_ (by first | omega | (simp only [hset, hnew]; omega) | rfl | decide) | refine At.new_ne ?_)))) (hv := rfl) (r := ?_)
  refine tX10_join_46  (r := ?_)
  refine tX10_join_47 (ha := (by first | assumption | (repeat (first | assumption | exact At.set_eq2 (by first | omega | (simp only [hset, hnew]; omega) | rfl | decide) | exact At.new_eq2 _ _ (by first | omega | (simp only [hset, hnew]; omega) | rfl | decide) | refine At.set_ne ?_ (by first | omega | (simp only [hset, hnew]; omega) | rfl | decide) | refine At.new_ne ?_)))) (hx := rfl) (hj := (by omega)) (hn := (by decide)) (r := ?_)
  rw [v8 _ (by omega)]
  refine tX10_join_48  (hP := ?_)
  exact ck_val cl (sm.ch (by omega) (by omega))

set_option maxHeartbeats 4000000 in
set_option maxRecDepth 100000 in
theorem k_join_no3 (hd : 7 ≤ d) (c : ClR h 0 bk dr s) (hb : BDok s.2.2.1 s.2.2.2) (hh : 216 ≤ h.1) {j0 : Nat} (q0 : j0 < bLa s.2.2.1) {j1 : Nat} (q1 : j1 < bLa s.2.2.1) (g : thr (dF s.2.2.2) j0 j1) {V : Int32} : RQ G mX10_join d 0 [some (.ref 0), some (.int (nI j0)), some (.int (nI j1))] [] h (CK h bk dr s "java/lang/IndexOutOfBoundsException" "java/lang/IllegalStateException" 2 V) := by
  have c1 := c.poll
  have cb := c.book
  obtain ⟨jf, lj, fo, le, u0, u1, u2, u3, u4, u5, u6, u7, u8, u9⟩ := id c.2.2.2.2.1
  have l1 := hb.1
  have l2 := hb.2.1
  have l3 := hb.2.2.1
  refine tX10_join_0  (r := ?_)
  refine tX10_join_1  (r := ?_)
  refine tX10_join_2 (hd := (by omega)) (ha := (by first | assumption | (repeat (first | assumption | exact At.set_eq2 (by first | omega | (simp only [hset, hnew]; omega) | rfl | decide) | exact At.new_eq2 _ _ (by first | omega | (simp only [hset, hnew]; omega) | rfl | decide) | refine At.set_ne ?_ (by first | omega | (simp only [hset, hnew]; omega) | rfl | decide) | refine At.new_ne ?_)))) (call := s_checkLabel_ok (d := 6) (QX := fun _ _ => False) c hb q0) (kx := fun E_ h_ hx_ => by exact hx_.elim) (k := ?_)
  intro h_ e0
  rw [e0]
  refine tX10_join_5  (r := ?_)
  refine tX10_join_6  (r := ?_)
  refine tX10_join_7 (hd := (by omega)) (ha := (by first | assumption | (repeat (first | assumption | exact At.set_eq2 (by first | omega | (simp only [hset, hnew]; omega) | rfl | decide) | exact At.new_eq2 _ _ (by first | omega | (simp only [hset, hnew]; omega) | rfl | decide) | refine At.set_ne ?_ (by first | omega | (simp only [hset, hnew]; omega) | rfl | decide) | refine At.new_ne ?_)))) (call := s_checkLabel_ok (d := 6) (QX := fun _ _ => False) c hb q1) (kx := fun E_ h_ hx_ => by exact hx_.elim) (k := ?_)
  intro h_ e1
  rw [e1]
  refine tX10_join_10  (r := ?_)
  refine tX10_join_11 (ha := (by first | assumption | (repeat (first | assumption | exact At.set_eq2 (by first | omega | (simp only [hset, hnew]; omega) | rfl | decide) | exact At.new_eq2 _ _ (by first | omega | (simp only [hset, hnew]; omega) | rfl | decide) | refine At.set_ne ?_ (by first | omega | (simp only [hset, hnew]; omega) | rfl | decide) | refine At.new_ne ?_)))) (hv := rfl) (r := ?_)
  refine tX10_join_14  (r := ?_)
  refine tX10_join_15  (r := ?_)
  refine tX10_join_16 (hd := (by omega)) (ha := (by first | assumption | (repeat (first | assumption | exact At.set_eq2 (by first | omega | (simp only [hset, hnew]; omega) | rfl | decide) | exact At.new_eq2 _ _ (by first | omega | (simp only [hset, hnew]; omega) | rfl | decide) | refine At.set_ne ?_ (by first | omega | (simp only [hset, hnew]; omega) | rfl | decide) | refine At.new_ne ?_)))) (call := s_may (d := 6) c.2.2.2.2.1 hb (show j0 < 6 by omega) (show j1 < 6 by omega)) (k := ?_)
  rintro v_ h_ ⟨my, e9⟩
  rw [e9]
  refine tX10_join_19  (kt := fun c_ => by exfalso; exact Or.elim my (fun z => z.2 g) (fun z => c_ (by rw [z.1]; decide))) (kf := fun _ => ?_)
  refine tX10_join_22 (hdd := (by omega)) (hP := ?_)
  exact ck_throw c hh (Or.inr ⟨rfl, by decide, rfl⟩)

set_option maxHeartbeats 4000000 in
set_option maxRecDepth 100000 in
theorem k_leave_ok (hd : 7 ≤ d) (c : ClR h 0 bk dr s) (hb : BDok s.2.2.1 s.2.2.2) (hh : 216 ≤ h.1) {j0 : Nat} (q0 : j0 < bLa s.2.2.1) (g : ¬ dF s.2.2.2 j0 = none) : RQ G mX10_leave d 0 [some (.ref 0), some (.int (nI j0)), none] [] h (CK h bk dr (s.1, s.2.1, s.2.2.1, (fwD s.2.2.2 j0 none)) "java/lang/IndexOutOfBoundsException" "java/lang/IllegalStateException" 0 (oI (dF s.2.2.2 j0))) := by
  have c1 := c.poll
  have cb := c.book
  obtain ⟨jf, lj, fo, le, u0, u1, u2, u3, u4, u5, u6, u7, u8, u9⟩ := id c.2.2.2.2.1
  have l1 := hb.1
  have l2 := hb.2.1
  have l3 := hb.2.2.1
  have ne_ := fun (z : oI (dF s.2.2.2 j0) = -1) => g ((oI_m1 (fun k e => by have := hb.six j0 k (by omega) e; omega)).mp z)
  refine tX10_leave_0  (r := ?_)
  refine tX10_leave_1  (r := ?_)
  refine tX10_leave_2 (hd := (by omega)) (ha := (by first | assumption | (repeat (first | assumption | exact At.set_eq2 (by first | omega | (simp only [hset, hnew]; omega) | rfl | decide) | exact At.new_eq2 _ _ (by first | omega | (simp only [hset, hnew]; omega) | rfl | decide) | refine At.set_ne ?_ (by first | omega | (simp only [hset, hnew]; omega) | rfl | decide) | refine At.new_ne ?_)))) (call := s_checkLabel_ok (d := 6) (QX := fun _ _ => False) c hb q0) (kx := fun E_ h_ hx_ => by exact hx_.elim) (k := ?_)
  intro h_ e0
  rw [e0]
  refine tX10_leave_5  (r := ?_)
  refine tX10_leave_6 (ha := (by first | assumption | (repeat (first | assumption | exact At.set_eq2 (by first | omega | (simp only [hset, hnew]; omega) | rfl | decide) | exact At.new_eq2 _ _ (by first | omega | (simp only [hset, hnew]; omega) | rfl | decide) | refine At.set_ne ?_ (by first | omega | (simp only [hset, hnew]; omega) | rfl | decide) | refine At.new_ne ?_)))) (hv := rfl) (r := ?_)
  refine tX10_leave_9 (ha := (by first | assumption | (repeat (first | assumption | exact At.set_eq2 (by first | omega | (simp only [hset, hnew]; omega) | rfl | decide) | exact At.new_eq2 _ _ (by first | omega | (simp only [hset, hnew]; omega) | rfl | decide) | refine At.set_ne ?_ (by first | omega | (simp only [hset, hnew]; omega) | rfl | decide) | refine At.new_ne ?_)))) (hv := rfl) (r := ?_)
  refine tX10_leave_12  (r := ?_)
  refine tX10_leave_13 (ha := (by first | assumption | (repeat (first | assumption | exact At.set_eq2 (by first | omega | (simp only [hset, hnew]; omega) | rfl | decide) | exact At.new_eq2 _ _ (by first | omega | (simp only [hset, hnew]; omega) | rfl | decide) | refine At.set_ne ?_ (by first | omega | (simp only [hset, hnew]; omega) | rfl | decide) | refine At.new_ne ?_)))) (hx := rfl) (hj := (by omega)) (hn := (by decide)) (r := ?_)
  rw [u7 _ (by omega)]
  refine tX10_leave_14  (r := ?_)
  refine tX10_leave_15  (r := ?_)
  refine tX10_leave_16  (r := ?_)
  refine tX10_leave_17  (kf := fun c_ => by exfalso; exact ne_ c_) (kt := fun _ => ?_)
  refine tX10_leave_28  (r := ?_)
  refine tX10_leave_29 (ha := (by first | assumption | (repeat (first | assumption | exact At.set_eq2 (by first | omega | (simp only [hset, hnew]; omega) | rfl | decide) | exact At.new_eq2 _ _ (by first | omega | (simp only [hset, hnew]; omega) | rfl | decide) | refine At.set_ne ?_ (by first | omega | (simp only [hset, hnew]; omega) | rfl | decide) | refine At.new_ne ?_)))) (hv := rfl) (r := ?_)
  refine tX10_leave_32  (r := ?_)
  refine tX10_leave_33  (r := ?_)
  refine tX10_leave_34 (hd := (by omega)) (ha := (by first | assumption | (repeat (first | assumption | exact At.set_eq2 (by first | omega | (simp only [hset, hnew]; omega) | rfl | decide) | exact At.new_eq2 _ _ (by first | omega | (simp only [hset, hnew]; omega) | rfl | decide) | refine At.set_ne ?_ (by first | omega | (simp only [hset, hnew]; omega) | rfl | decide) | refine At.new_ne ?_)))) (call := s_follow (d := 6) (t := none) c.2.2.2.2.1 hb q0 (fun j z => nomatch z)) (k := ?_)
  intro h1 hq
  obtain ⟨cu, sm⟩ := hq
  have cl := c.now cu sm (by omega) (by omega)
  refine tX10_leave_37  (r := ?_)
  refine tX10_leave_38  (hP := ?_)
  exact ck_val cl (sm.ch (by omega) (by omega))

set_option maxHeartbeats 4000000 in
set_option maxRecDepth 100000 in
theorem k_leave_no2 (hd : 7 ≤ d) (c : ClR h 0 bk dr s) (hb : BDok s.2.2.1 s.2.2.2) (hh : 216 ≤ h.1) {j0 : Nat} (q0 : j0 < bLa s.2.2.1) (g : dF s.2.2.2 j0 = none) {V : Int32} : RQ G mX10_leave d 0 [some (.ref 0), some (.int (nI j0)), none] [] h (CK h bk dr s "java/lang/IndexOutOfBoundsException" "java/lang/IllegalStateException" 2 V) := by
  have c1 := c.poll
  have cb := c.book
  obtain ⟨jf, lj, fo, le, u0, u1, u2, u3, u4, u5, u6, u7, u8, u9⟩ := id c.2.2.2.2.1
  have l1 := hb.1
  have l2 := hb.2.1
  have l3 := hb.2.2.1
  refine tX10_leave_0  (r := ?_)
  refine tX10_leave_1  (r := ?_)
  refine tX10_leave_2 (hd := (by omega)) (ha := (by first | assumption | (repeat (first | assumption | exact At.set_eq2 (by first | omega | (simp only [hset, hnew]; omega) | rfl | decide) | exact At.new_eq2 _ _ (by first | omega | (simp only [hset, hnew]; omega) | rfl | decide) | refine At.set_ne ?_ (by first | omega | (simp only [hset, hnew]; omega) | rfl | decide) | refine At.new_ne ?_)))) (call := s_checkLabel_ok (d := 6) (QX := fun _ _ => False) c hb q0) (kx := fun E_ h_ hx_ => by exact hx_.elim) (k := ?_)
  intro h_ e0
  rw [e0]
  refine tX10_leave_5  (r := ?_)
  refine tX10_leave_6 (ha := (by first | assumption | (repeat (first | assumption | exact At.set_eq2 (by first | omega | (simp only [hset, hnew]; omega) | rfl | decide) | exact At.new_eq2 _ _ (by first | omega | (simp only [hset, hnew]; omega) | rfl | decide) | refine At.set_ne ?_ (by first | omega | (simp only [hset, hnew]; omega) | rfl | decide) | refine At.new_ne ?_)))) (hv := rfl) (r := ?_)
  refine tX10_leave_9 (ha := (by first | assumption | (repeat (first | assumption | exact At.set_eq2 (by first | omega | (simp only [hset, hnew]; omega) | rfl | decide) | exact At.new_eq2 _ _ (by first | omega | (simp only [hset, hnew]; omega) | rfl | decide) | refine At.set_ne ?_ (by first | omega | (simp only [hset, hnew]; omega) | rfl | decide) | refine At.new_ne ?_)))) (hv := rfl) (r := ?_)
  refine tX10_leave_12  (r := ?_)
  refine tX10_leave_13 (ha := (by first | assumption | (repeat (first | assumption | exact At.set_eq2 (by first | omega | (simp only [hset, hnew]; omega) | rfl | decide) | exact At.new_eq2 _ _ (by first | omega | (simp only [hset, hnew]; omega) | rfl | decide) | refine At.set_ne ?_ (by first | omega | (simp only [hset, hnew]; omega) | rfl | decide) | refine At.new_ne ?_)))) (hx := rfl) (hj := (by omega)) (hn := (by decide)) (r := ?_)
  rw [u7 _ (by omega), g]
  refine tX10_leave_14  (r := ?_)
  refine tX10_leave_15  (r := ?_)
  refine tX10_leave_16  (r := ?_)
  refine tX10_leave_17  (kt := fun c_ => by exfalso; exact c_ rfl) (kf := fun _ => ?_)
  refine tX10_leave_20 (hdd := (by omega)) (hP := ?_)
  exact ck_throw c hh (Or.inr ⟨rfl, by decide, rfl⟩)

end FO
section FOC
end FOC
