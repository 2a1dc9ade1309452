/-! the reference reads a jar's line -/
/-- cells that are kept: all but the reference's, the book's, names' and nodes' rows, and those of S -/
def Kp (h h1 : AH) (m : Nat) (S : Nat → Prop) : Prop := h1.1 = h.1 ∧ h1.2.1 = h.2.1 ∧ ∀ i c, At h i c → i ≠ m → i ≠ m + 28 → (i < m + 6 ∨ m + 9 ≤ i) → (i < m + 28 + 16 ∨ m + 28 + 19 ≤ i) → ¬ S i → At h1 i c
theorem Kp.rf (h : AH) (m : Nat) (S : Nat → Prop) : Kp h h m S := ⟨rfl, rfl, fun _ _ a _ _ _ _ _ => a⟩
theorem Kp.trans {h h1 h2 : AH} {m : Nat} {S : Nat → Prop} (a : Kp h h1 m S) (b : Kp h1 h2 m S) : Kp h h2 m S := ⟨b.1.trans a.1, b.2.1.trans a.2.1, fun i c x e1 e2 e3 e4 e5 => b.2.2 i c (a.2.2 i c x e1 e2 e3 e4 e5) e1 e2 e3 e4 e5⟩
theorem Kp.mono {h h1 : AH} {m : Nat} {S S2 : Nat → Prop} (a : Kp h h1 m S) (e : ∀ i, S i → S2 i) : Kp h h1 m S2 := ⟨a.1, a.2.1, fun i c x e1 e2 e3 e4 e5 => a.2.2 i c x e1 e2 e3 e4 (fun z => e5 (e i z))⟩
theorem Kp.set {h h1 : AH} {m i : Nat} {c : AC} {S : Nat → Prop} (a : Kp h h1 m S) (e : i = m ∨ i = m + 28 ∨ (m + 6 ≤ i ∧ i < m + 9) ∨ (m + 28 + 16 ≤ i ∧ i < m + 28 + 19) ∨ S i) : Kp h (hset h1 i c) m S := ⟨a.1, a.2.1, fun k c9 x e1 e2 e3 e4 e5 => At.set_ne (a.2.2 k c9 x e1 e2 e3 e4 e5) (by
  intro z
  subst z
  rcases e with e | e | e | e | e
  · exact e1 e
  · exact e2 e
  · omega
  · omega
  · exact e5 e)⟩
theorem Ux.kp {h h1 : AH} {m : Nat} {S : Nat → Prop} (u : Ux h h1 m) : Kp h h1 m S := ⟨u.1, u.2.1, fun i c a e1 e2 e3 e4 _ => u.at a e1 e2 e4⟩
theorem Uw.kp {h h1 : AH} {m : Nat} {S : Nat → Prop} (u : Uw h h1 m) : Kp h h1 m S := ⟨u.1, u.2.1, fun i c a e1 e2 e3 e4 _ => u.at a e1 e2 e3 e4⟩
theorem adN_0 {v : Nat} : adN 0 v = laD v := rfl
theorem adN_1 {v : Nat} : adN 1 v = jaD v := rfl
theorem adN_5 {v : Nat} : adN 5 v = lnD v := rfl
section RMP
variable {G : GT} {d : Nat} {h0 h : AH} {m : Nat} {K : TKS} {T : List Nat} {L : Nat → Nat} {s t : PST} {dp : Nat} {g : GCT} {no : Nat} {P : OC → AH → Prop}

set_option maxHeartbeats 4000000 in
set_option maxRecDepth 100000 in
theorem s_mj0 (hd : 20 ≤ d) (rx : RxM h h m K T L t 0 g no) {f : Bool} (j8 : g.2.1 ≤ 8) (hf : pEr t = 0 → g.2.1 = bJa (pBk t) ∧ f = decide (8 ≤ bJa (pBk t)) ∧ (bJa (pBk t) < 8 → bLa (pBk t) + bJa (pBk t) + bLi (pBk t) < 20)) (kk : ∀ h1 nm1, RxM h1 h1 m K T L (tkP K 2 (tkP K 39 (upP (jaD (vaP K (nwP K f t))) (nwP K f t)))) 0 (gNm g nm1) no → Kp h h1 m (fun _ => False) → RQ G mX12_jar d 20 [some (.ref m), some (.int (nI (min 8 g.2.1))), none] [] h1 P) : RQ G mX12_jar d 0 [some (.ref m), none, none] [] h P := by
  obtain ⟨⟨th, by_, ea, a0⟩, a1, -⟩ := id rx
  refine tX12_jar_0  (r := ?_)
  refine tX12_jar_1  (r := ?_)
  refine tX12_jar_2  (r := ?_)
  refine tX12_jar_3 (ha := (by first | assumption | (repeat (first | assumption | exact At.set_eq2 (by first | omega | (simp only [hset, hnew]; omega) | rfl | decide) | exact At.new_eq2 _ _ (by first | omega | (simp only [hset, hnew]; omega) | rfl | decide) | refine At.set_ne ?_ (by first | omega | (simp only [hset, hnew]; omega) | rfl | decide) | refine At.new_ne ?_)))) (hv := rfl) (r := ?_)
  refine tX12_jar_6 (ha := (by first | assumption | (repeat (first | assumption | exact At.set_eq2 (by first | omega | (simp only [hset, hnew]; omega) | rfl | decide) | exact At.new_eq2 _ _ (by first | omega | (simp only [hset, hnew]; omega) | rfl | decide) | refine At.set_ne ?_ (by first | omega | (simp only [hset, hnew]; omega) | rfl | decide) | refine At.new_ne ?_)))) (hv := rfl) (r := ?_)
  refine tX12_jar_9  (r := ?_)
  refine tX12_jar_11 (hd := (by omega)) (ha := (by first | assumption | (repeat (first | assumption | exact At.set_eq2 (by first | omega | (simp only [hset, hnew]; omega) | rfl | decide) | exact At.new_eq2 _ _ (by first | omega | (simp only [hset, hnew]; omega) | rfl | decide) | refine At.set_ne ?_ (by first | omega | (simp only [hset, hnew]; omega) | rfl | decide) | refine At.new_ne ?_)))) (call := s_mnew (d := 10) (by decide) rx (w := 1) (many := g.2.1) (most := 8) (f := f) (by decide) (by decide) j8 (fun z => ⟨(hf z).1, rfl, by rw [(hf z).2.1, (hf z).1], fun q => (hf z).2.2 (by rw [← (hf z).1]; exact q)⟩)) (k := ?_)
  rintro v1 h1 ⟨hv1, uw1, nm1, rx1⟩
  rw [hv1]
  rw [adN_1] at rx1
  obtain ⟨⟨th1, by1, ea1, p1⟩, -⟩ := id rx1
  refine tX12_jar_14  (r := ?_)
  refine tX12_jar_15  (r := ?_)
  refine tX12_jar_16  (r := ?_)
  refine tX12_jar_17 (hd := (by omega)) (ha := (by first | assumption | (repeat (first | assumption | exact At.set_eq2 (by first | omega | (simp only [hset, hnew]; omega) | rfl | decide) | exact At.new_eq2 _ _ (by first | omega | (simp only [hset, hnew]; omega) | rfl | decide) | refine At.set_ne ?_ (by first | omega | (simp only [hset, hnew]; omega) | rfl | decide) | refine At.new_ne ?_)))) (call := s_mtake (d := 10) (by decide) rx1 (k := 2) (by decide)) (k := ?_)
  intro h2 rx2
  obtain ⟨-, -, -, -, -, -, -, -, -, -, -, u2, -⟩ := id rx2
  exact kk h2 nm1 rx2.self (uw1.kp.trans u2.kp)

set_option maxHeartbeats 4000000 in
set_option maxRecDepth 100000 in
theorem s_mj20 (hd : 20 ≤ d) (rx : RxM h h m K T L s 0 g no) {k : Nat} (hk : k ≤ 8) {f1 : Nat → Int32} (r1 : At h (m + 28 + 1) (.inl (0, 9, .inl f1))) (kk : ∀ h1 v1, RxM h1 h1 m K T L (j2P K s) 0 g no → At h1 (m + 28 + 1) (.inl (0, 9, .inl (upd f1 k v1))) → (pEr (j2P K s) = 0 → v1 = nI (vaP K s)) → Kp h h1 m (fun i => i = m + 28 + 1) → RQ G mX12_jar d 41 [some (.ref m), some (.int (nI k)), none] [] h1 P) : RQ G mX12_jar d 20 [some (.ref m), some (.int (nI k)), none] [] h P := by
  obtain ⟨⟨th, by_, ea, a0⟩, a1, -⟩ := id rx
  refine tX12_jar_20  (r := ?_)
  refine tX12_jar_21 (ha := (by first | assumption | (repeat (first | assumption | exact At.set_eq2 (by first | omega | (simp only [hset, hnew]; omega) | rfl | decide) | exact At.new_eq2 _ _ (by first | omega | (simp only [hset, hnew]; omega) | rfl | decide) | refine At.set_ne ?_ (by first | omega | (simp only [hset, hnew]; omega) | rfl | decide) | refine At.new_ne ?_)))) (hv := rfl) (r := ?_)
  refine tX12_jar_24 (ha := (by first | assumption | (repeat (first | assumption | exact At.set_eq2 (by first | omega | (simp only [hset, hnew]; omega) | rfl | decide) | exact At.new_eq2 _ _ (by first | omega | (simp only [hset, hnew]; omega) | rfl | decide) | refine At.set_ne ?_ (by first | omega | (simp only [hset, hnew]; omega) | rfl | decide) | refine At.new_ne ?_)))) (hv := rfl) (r := ?_)
  refine tX12_jar_27  (r := ?_)
  refine tX12_jar_28  (r := ?_)
  refine tX12_jar_29  (r := ?_)
  refine tX12_jar_30  (r := ?_)
  refine tX12_jar_32 (hd := (by omega)) (ha := (by first | assumption | (repeat (first | assumption | exact At.set_eq2 (by first | omega | (simp only [hset, hnew]; omega) | rfl | decide) | exact At.new_eq2 _ _ (by first | omega | (simp only [hset, hnew]; omega) | rfl | decide) | refine At.set_ne ?_ (by first | omega | (simp only [hset, hnew]; omega) | rfl | decide) | refine At.new_ne ?_)))) (call := s_mnum (d := 10) (by decide) rx (lo := nI 1) (hi := nI 9) (bad := (nI (vaP K s) < nI 1 ∨ nI 9 < nI (vaP K s))) (db := inferInstance) (fun z ek => by
  rw [← Int32.not_le, ← Int32.not_le]
  exact ⟨fun q w => q.elim (fun q => q w.1) (fun q => q w.2), fun q => Classical.byContradiction (fun w => q ⟨Classical.byContradiction (fun y => w (Or.inl y)), Classical.byContradiction (fun y => w (Or.inr y))⟩)⟩)) (k := ?_)
  rintro v1 h1 ⟨hv1, rx1⟩
  obtain ⟨⟨th1, by1, ea1, p1⟩, pp1, -, -, -, -, -, -, -, -, -, u1, -⟩ := id rx1
  have w1 := u1.at r1 (by omega) (by omega) (by omega)
  have l1 := w1.1
  have rx2 := rx1.self.out (i := m + 28 + 1) (c := .inl (0, 9, .inl (upd f1 k v1))) (by omega)
  have p1b : At _ m _ := At.set_ne (i := m + 28 + 1) (c := .inl (0, 9, .inl (upd f1 k v1))) p1 (by omega)
  refine tX12_jar_35 (ha := w1) (hx := rfl) (hj := (by omega)) (hn := (by decide)) (r := ?_)
  refine tX12_jar_36  (r := ?_)
  refine tX12_jar_37  (r := ?_)
  refine tX12_jar_38 (hd := (by omega)) (ha := (by first | assumption | (repeat (first | assumption | exact At.set_eq2 (by first | omega | (simp only [hset, hnew]; omega) | rfl | decide) | exact At.new_eq2 _ _ (by first | omega | (simp only [hset, hnew]; omega) | rfl | decide) | refine At.set_ne ?_ (by first | omega | (simp only [hset, hnew]; omega) | rfl | decide) | refine At.new_ne ?_)))) (call := s_mtake (d := 10) (by decide) rx2 (k := 3) (by decide)) (k := ?_)
  intro h3 rx3
  obtain ⟨-, -, -, -, -, -, -, -, -, -, -, u3, -⟩ := id rx3
  exact kk h3 v1 rx3.self (u3.at (At.set_eq2 l1) (by omega) (by omega) (by omega)) (fun z => hv1 (tkP_er z).1) (((Ux.kp (S := fun i => i = m + 28 + 1) u1).set (Or.inr (Or.inr (Or.inr (Or.inr rfl))))).trans u3.kp)

theorem so_way {k : Nat} (hk : k < 43) : (24 ≤ soK k ∧ soK k ≤ 26) ↔ (k = 24 ∨ k = 25 ∨ k = 26) := by
  have key : (List.range 43).all (fun k => decide ((24 ≤ soK k ∧ soK k ≤ 26) ↔ (k = 24 ∨ k = 25 ∨ k = 26))) = true := by decide +kernel
  exact of_decide_eq_true (List.all_eq_true.mp key k (List.mem_range.mpr hk))

set_option maxHeartbeats 4000000 in
set_option maxRecDepth 100000 in
theorem s_mj41 (hd : 20 ≤ d) (rx : RxM h h m K T L s 0 g no) {k : Nat} (hk : k ≤ 8) {f2 : Nat → Int32} (r2 : At h (m + 28 + 2) (.inl (0, 9, .inl f2))) (kk : ∀ h1 v1, RxM h1 h1 m K T L (tkP K 4 (tkP K (wyW (kdP K s)) s)) 0 g no → At h1 (m + 28 + 2) (.inl (0, 9, .inl (upd f2 k v1))) → (pEr (tkP K 4 (tkP K (wyW (kdP K s)) s)) = 0 → v1 = nI (kdP K s)) → Kp h h1 m (fun i => i = m + 28 + 2) → RQ G mX12_jar d 107 [some (.ref m), some (.int (nI k)), none] [] h1 P) : RQ G mX12_jar d 41 [some (.ref m), some (.int (nI k)), none] [] h P := by
  obtain ⟨⟨th, by_, ea, a0⟩, a1, ⟨q2, a2, c2⟩, ⟨q3, a3, c3⟩, ⟨q4, a4, c4⟩, b1, b2, b3, b4, b5, b6, u, tk, nm⟩ := id rx
  obtain ⟨⟨v1, y1, x1⟩, ⟨v2, y2, x2⟩, ⟨v3, y3, x3⟩, ⟨v4, y4, x4⟩, ⟨v5, y5, x5⟩, tw⟩ := id tk
  have k401 := tw.2.1
  have w1 := u.at y1 (by omega) (by omega) (by omega)
  have w2 := u.at y2 (by omega) (by omega) (by omega)
  have w3 := u.at y3 (by omega) (by omega) (by omega)
  have w4 := u.at y4 (by omega) (by omega) (by omega)
  have w5 := u.at y5 (by omega) (by omega) (by omega)
  have z0 := a0.1
  have z1 := a1.1
  have l2_ := a2.1
  have l3_ := a3.1
  have l4_ := a4.1
  have l2 := r2.1
  have k43 := rx.ne42.2
  have so52 := soK_lt (K.2.1 (pPo s))
  have rxb := rx.out (i := m + 28 + 2) (c := (.inl (0, 9, .inl (upd f2 k (nI (soK (K.2.1 (pPo s)))))))) (by omega)
  have p0b : At _ m _ := At.set_ne (i := m + 28 + 2) (c := (.inl (0, 9, .inl (upd f2 k (nI (soK (K.2.1 (pPo s)))))))) a0 (by omega)
  have w2b : At _ (m + 2) _ := At.set_ne (i := m + 28 + 2) (c := (.inl (0, 9, .inl (upd f2 k (nI (soK (K.2.1 (pPo s)))))))) w2 (by omega)
  have zb : m < (hset h (m + 28 + 2) (.inl (0, 9, .inl (upd f2 k (nI (soK (K.2.1 (pPo s)))))))).1 := z0
  have ab2 : At (hset h (m + 28 + 2) (.inl (0, 9, .inl (upd f2 k (nI (soK (K.2.1 (pPo s)))))))) (m + 28 + 2) (.inl (0, 9, .inl (upd f2 k (nI (soK (K.2.1 (pPo s))))))) := At.set_eq2 l2
  refine tX12_jar_41  (r := ?_)
  refine tX12_jar_42 (ha := (by first | assumption | (repeat (first | assumption | exact At.set_eq2 (by first | omega | (simp only [hset, hnew]; omega) | rfl | decide) | exact At.new_eq2 _ _ (by first | omega | (simp only [hset, hnew]; omega) | rfl | decide) | refine At.set_ne ?_ (by first | omega | (simp only [hset, hnew]; omega) | rfl | decide) | refine At.new_ne ?_)))) (hv := rfl) (r := ?_)
  refine tX12_jar_45 (ha := (by first | assumption | (repeat (first | assumption | exact At.set_eq2 (by first | omega | (simp only [hset, hnew]; omega) | rfl | decide) | exact At.new_eq2 _ _ (by first | omega | (simp only [hset, hnew]; omega) | rfl | decide) | refine At.set_ne ?_ (by first | omega | (simp only [hset, hnew]; omega) | rfl | decide) | refine At.new_ne ?_)))) (hv := rfl) (r := ?_)
  refine tX12_jar_48  (r := ?_)
  refine tX12_jar_49  (r := ?_)
  refine tX12_jar_50 (ha := (by first | assumption | (repeat (first | assumption | exact At.set_eq2 (by first | omega | (simp only [hset, hnew]; omega) | rfl | decide) | exact At.new_eq2 _ _ (by first | omega | (simp only [hset, hnew]; omega) | rfl | decide) | refine At.set_ne ?_ (by first | omega | (simp only [hset, hnew]; omega) | rfl | decide) | refine At.new_ne ?_)))) (hv := rfl) (r := ?_)
  refine tX12_jar_53  (r := ?_)
  refine tX12_jar_54 (ha := (by first | assumption | (repeat (first | assumption | exact At.set_eq2 (by first | omega | (simp only [hset, hnew]; omega) | rfl | decide) | exact At.new_eq2 _ _ (by first | omega | (simp only [hset, hnew]; omega) | rfl | decide) | refine At.set_ne ?_ (by first | omega | (simp only [hset, hnew]; omega) | rfl | decide) | refine At.new_ne ?_)))) (hv := rfl) (r := ?_)
  refine tX12_jar_57 (ha := (by first | assumption | (repeat (first | assumption | exact At.set_eq2 (by first | omega | (simp only [hset, hnew]; omega) | rfl | decide) | exact At.new_eq2 _ _ (by first | omega | (simp only [hset, hnew]; omega) | rfl | decide) | refine At.set_ne ?_ (by first | omega | (simp only [hset, hnew]; omega) | rfl | decide) | refine At.new_ne ?_)))) (hx := rfl) (hj := (by omega)) (hn := (by decide)) (r := ?_)
  rw [x2 _ b3]
  show RQ _ _ _ _ _ (.int (nI (soK (K.2.1 (pPo s)))) :: _) _ _
  refine tX12_jar_58 (ha := r2) (hx := rfl) (hj := (by omega)) (hn := (by decide)) (r := ?_)
  refine tX12_jar_59  (r := ?_)
  refine tX12_jar_60 (ha := (by first | assumption | (repeat (first | assumption | exact At.set_eq2 (by first | omega | (simp only [hset, hnew]; omega) | rfl | decide) | exact At.new_eq2 _ _ (by first | omega | (simp only [hset, hnew]; omega) | rfl | decide) | refine At.set_ne ?_ (by first | omega | (simp only [hset, hnew]; omega) | rfl | decide) | refine At.new_ne ?_)))) (hv := rfl) (r := ?_)
  refine tX12_jar_63  (kt := fun c_63 => ?_) (kf := fun c_63 => ?_)
  · have e1 : pEr s = 1 := Classical.byContradiction (fun z => by rw [if_neg z] at c_63; exact c_63 rfl)
    have et : tkP K (wyW (kdP K s)) s = wrP s := by
      rw [tkP_1 e1]
      exact (if_pos e1).symm
    rw [et] at kk
    refine tX12_jar_85  (r := ?_)
    refine tX12_jar_86 (hd := (by omega)) (ha := (by first | assumption | (repeat (first | assumption | exact At.set_eq2 (by first | omega | (simp only [hset, hnew]; omega) | rfl | decide) | exact At.new_eq2 _ _ (by first | omega | (simp only [hset, hnew]; omega) | rfl | decide) | refine At.set_ne ?_ (by first | omega | (simp only [hset, hnew]; omega) | rfl | decide) | refine At.new_ne ?_)))) (call := s_mwrong (d := 10) rxb) (k := ?_)
    intro h1 rx1
    obtain ⟨⟨th1, by1, ea1, p1⟩, -, -, -, -, -, -, -, -, -, -, u1, -⟩ := id rx1
    refine tX12_jar_89 (r := ?_)
    refine tX12_jar_102  (r := ?_)
    refine tX12_jar_103  (r := ?_)
    refine tX12_jar_104 (hd := (by omega)) (ha := (by first | assumption | (repeat (first | assumption | exact At.set_eq2 (by first | omega | (simp only [hset, hnew]; omega) | rfl | decide) | exact At.new_eq2 _ _ (by first | omega | (simp only [hset, hnew]; omega) | rfl | decide) | refine At.set_ne ?_ (by first | omega | (simp only [hset, hnew]; omega) | rfl | decide) | refine At.new_ne ?_)))) (call := s_mtake (d := 10) (by decide) rx1 (k := 4) (by decide)) (k := ?_)
    intro h3 rx3
    obtain ⟨-, -, -, -, -, -, -, -, -, -, -, u3, -⟩ := id rx3
    exact kk h3 _ rx3.self (u3.at ab2 (by omega) (by omega) (by omega)) (fun z => absurd ((wrP_er s).symm.trans (tkP_er z).1) (by decide)) (((Kp.rf h m (fun i => i = m + 28 + 2)).set (Or.inr (Or.inr (Or.inr (Or.inr rfl))))).trans u3.kp)
  · have e1 : ¬ pEr s = 1 := fun z => by rw [if_pos z] at c_63; exact absurd c_63 (by decide)
    have kv : K.2.1 (pPo s) = kdP K s := by
      have e2 : kdP K s = kdT K (pPo s) := if_neg e1
      rw [e2, rx.ne42.1]
    have sw := so_way k43
    refine tX12_jar_66  (r := ?_)
    refine tX12_jar_67 (ha := (by first | assumption | (repeat (first | assumption | exact At.set_eq2 (by first | omega | (simp only [hset, hnew]; omega) | rfl | decide) | exact At.new_eq2 _ _ (by first | omega | (simp only [hset, hnew]; omega) | rfl | decide) | refine At.set_ne ?_ (by first | omega | (simp only [hset, hnew]; omega) | rfl | decide) | refine At.new_ne ?_)))) (hv := rfl) (r := ?_)
    refine tX12_jar_70  (r := ?_)
    refine tX12_jar_71 (ha := (by first | assumption | (repeat (first | assumption | exact At.set_eq2 (by first | omega | (simp only [hset, hnew]; omega) | rfl | decide) | exact At.new_eq2 _ _ (by first | omega | (simp only [hset, hnew]; omega) | rfl | decide) | refine At.set_ne ?_ (by first | omega | (simp only [hset, hnew]; omega) | rfl | decide) | refine At.new_ne ?_)))) (hv := rfl) (r := ?_)
    refine tX12_jar_74 (ha := w2b) (hx := rfl) (hj := (by omega)) (hn := (by decide)) (r := ?_)
    rw [x2 _ b3]
    show RQ _ _ _ _ _ (.int (nI (soK (K.2.1 (pPo s)))) :: _) _ _
    refine tX12_jar_75  (r := ?_)
    refine tX12_jar_77  (r := ?_)
    refine tX12_jar_79 (hd := (by omega)) (call := s_misIn (d := 3)) (k := ?_)
    rintro x_ h_ ⟨hx_, e_⟩
    rw [e_, hx_]
    refine tX12_jar_82  (kt := fun c_82 => ?_) (kf := fun c_82 => ?_)
    · have es : 24 ≤ soK (K.2.1 (pPo s)) ∧ soK (K.2.1 (pPo s)) ≤ 26 := Classical.byContradiction (fun z => by
        rw [if_neg (fun q => z ⟨(nI_leI (by decide) (by omega)).mp q.1, (nI_leI (by omega) (by decide)).mp q.2⟩)] at c_82
        exact c_82 rfl)
      have ks := sw.mp es
      rw [kv] at ks
      have ew : wyW (kdP K s) = kdP K s := by
        unfold wyW
        split <;> omega
      obtain ⟨et, -⟩ := tkP_y (K := K) (s := s) rfl (by omega)
      rw [ew, et] at kk
      refine tX12_jar_92  (r := ?_)
      refine tX12_jar_93  (r := ?_)
      refine tX12_jar_94 (ha := (by first | assumption | (repeat (first | assumption | exact At.set_eq2 (by first | omega | (simp only [hset, hnew]; omega) | rfl | decide) | exact At.new_eq2 _ _ (by first | omega | (simp only [hset, hnew]; omega) | rfl | decide) | refine At.set_ne ?_ (by first | omega | (simp only [hset, hnew]; omega) | rfl | decide) | refine At.new_ne ?_)))) (hv := rfl) (r := ?_)
      refine tX12_jar_97  (r := ?_)
      refine tX12_jar_98  (r := ?_)
      rw [nI_add]
      refine tX12_jar_99 (ha := (by first | assumption | (repeat (first | assumption | exact At.set_eq2 (by first | omega | (simp only [hset, hnew]; omega) | rfl | decide) | exact At.new_eq2 _ _ (by first | omega | (simp only [hset, hnew]; omega) | rfl | decide) | refine At.set_ne ?_ (by first | omega | (simp only [hset, hnew]; omega) | rfl | decide) | refine At.new_ne ?_)))) (hlen := rfl) (r := ?_)
      have rx1 := rxb.next p0b (by omega)
      obtain ⟨⟨th1, by1, ea1, p1⟩, -⟩ := id rx1
      refine tX12_jar_102  (r := ?_)
      refine tX12_jar_103  (r := ?_)
      refine tX12_jar_104 (hd := (by omega)) (ha := (by first | assumption | (repeat (first | assumption | exact At.set_eq2 (by first | omega | (simp only [hset, hnew]; omega) | rfl | decide) | exact At.new_eq2 _ _ (by first | omega | (simp only [hset, hnew]; omega) | rfl | decide) | refine At.set_ne ?_ (by first | omega | (simp only [hset, hnew]; omega) | rfl | decide) | refine At.new_ne ?_)))) (call := s_mtake (d := 10) (by decide) rx1.self (k := 4) (by decide)) (k := ?_)
      intro h3 rx3
      obtain ⟨-, -, -, -, -, -, -, -, -, -, -, u3, -⟩ := id rx3
      exact kk h3 _ rx3.self (u3.at (At.set_ne ab2 (by omega)) (by omega) (by omega) (by omega)) (fun z => by
        rw [kv]
        rcases ks with q | q | q <;> (rw [q]; rfl)) ((((Kp.rf h m (fun i => i = m + 28 + 2)).set (Or.inr (Or.inr (Or.inr (Or.inr rfl))))).set (Or.inl rfl)).trans u3.kp)
    · have es : ¬ (24 ≤ soK (K.2.1 (pPo s)) ∧ soK (K.2.1 (pPo s)) ≤ 26) := fun z => by
        rw [if_pos ⟨(nI_leI (by decide) (by omega)).mpr z.1, (nI_leI (by omega) (by decide)).mpr z.2⟩] at c_82
        exact absurd c_82 (by decide)
      have ks : ¬ (kdP K s = 24 ∨ kdP K s = 25 ∨ kdP K s = 26) := fun z => es (sw.mpr (by rw [kv]; exact z))
      have ew : wyW (kdP K s) = 26 := if_neg (by omega)
      have et : tkP K (wyW (kdP K s)) s = wrP s := by
        rw [ew]
        exact tkP_wr (by omega)
      rw [et] at kk
      refine tX12_jar_85  (r := ?_)
      refine tX12_jar_86 (hd := (by omega)) (ha := (by first | assumption | (repeat (first | assumption | exact At.set_eq2 (by first | omega | (simp only [hset, hnew]; omega) | rfl | decide) | exact At.new_eq2 _ _ (by first | omega | (simp only [hset, hnew]; omega) | rfl | decide) | refine At.set_ne ?_ (by first | omega | (simp only [hset, hnew]; omega) | rfl | decide) | refine At.new_ne ?_)))) (call := s_mwrong (d := 10) rxb) (k := ?_)
      intro h1 rx1
      obtain ⟨⟨th1, by1, ea1, p1⟩, -, -, -, -, -, -, -, -, -, -, u1, -⟩ := id rx1
      refine tX12_jar_89 (r := ?_)
      refine tX12_jar_102  (r := ?_)
      refine tX12_jar_103  (r := ?_)
      refine tX12_jar_104 (hd := (by omega)) (ha := (by first | assumption | (repeat (first | assumption | exact At.set_eq2 (by first | omega | (simp only [hset, hnew]; omega) | rfl | decide) | exact At.new_eq2 _ _ (by first | omega | (simp only [hset, hnew]; omega) | rfl | decide) | refine At.set_ne ?_ (by first | omega | (simp only [hset, hnew]; omega) | rfl | decide) | refine At.new_ne ?_)))) (call := s_mtake (d := 10) (by decide) rx1 (k := 4) (by decide)) (k := ?_)
      intro h3 rx3
      obtain ⟨-, -, -, -, -, -, -, -, -, -, -, u3, -⟩ := id rx3
      exact kk h3 _ rx3.self (u3.at ab2 (by omega) (by omega) (by omega)) (fun z => absurd ((wrP_er s).symm.trans (tkP_er z).1) (by decide)) (((Kp.rf h m (fun i => i = m + 28 + 2)).set (Or.inr (Or.inr (Or.inr (Or.inr rfl))))).trans u3.kp)

end RMP
