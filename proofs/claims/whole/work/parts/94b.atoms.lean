/-! the reference reads values -/
theorem pPo_up {f : DRF → DRF} {s : PST} : pPo (upP f s) = pPo s := by
  unfold upP
  split <;> rfl
theorem pEr_up {f : DRF → DRF} {s : PST} : pEr (upP f s) = pEr s := by
  unfold upP
  split <;> rfl
theorem pEt_up {f : DRF → DRF} {s : PST} : pEt (upP f s) = pEt s := by
  unfold upP
  split <;> rfl
theorem tkP_po {K : TKS} {w : Nat} {s : PST} : pPo s ≤ pPo (tkP K w s) ∧ pPo (tkP K w s) ≤ pPo s + 1 := by
  unfold tkP
  split
  · exact ⟨Nat.le_refl _, Nat.le_succ _⟩
  · split
    · exact ⟨Nat.le_succ _, Nat.le_refl _⟩
    · exact ⟨Nat.le_refl _, Nat.le_succ _⟩
theorem rpP_po {n : Nat} {s : PST} : pPo (rpP n s) = pPo s := by
  unfold rpP
  split <;> rfl
theorem rpO_po {o : Option Nat} {s : PST} : pPo (rpO o s) = pPo s := by
  unfold rpO
  split
  · exact rpP_po
  · rfl
section RMC
variable {G : GT} {d : Nat} {h0 h : AH} {m : Nat} {K : TKS} {T : List Nat} {L : Nat → Nat} {s : PST} {dp : Nat} {g : GCT} {no : Nat}
/-- a method that reads: f is what it does -/
def ExM (G : GT) (M : MI) (d : Nat) (LC : List (Option Value)) (h0 : AH) (m : Nat) (K : TKS) (T : List Nat) (L : Nat → Nat) (dp : Nat) (g : GCT) (f : PST → PST × Nat) : Prop := ∀ h s no, RxM h0 h m K T L s dp g no → RQ G M d 0 LC [] h (Ri fun v h1 => ∃ n1, RxM h0 h1 m K T L (f s).1 dp g n1 ∧ (pEr (f s).1 = 0 → v = nI (f s).2) ∧ n1 + pPo s ≤ no + pPo (f s).1)
theorem RxM.next (rx : RxM h0 h m K T L s dp g no) {th by_ : Int32} {ea : Int32 × Int32} (a0 : At h m (MrO m s dp g.2.2.2.2.2 th by_ ea)) (e : kdP K s < 41) : RxM h0 (hset h m (MrO m (pPo s + 1, pEr s, pEt s, pDf s) dp g.2.2.2.2.2 th by_ ea)) m K T L (pPo s + 1, pEr s, pEt s, pDf s) dp g no := by
  have pn := (rx.nx e).1
  obtain ⟨-, a1, ⟨q2, a2, c2⟩, ⟨q3, a3, c3⟩, ⟨q4, a4, c4⟩, b1, b2, b3, b4, b5, b6, u, tk, nm⟩ := rx
  exact ⟨⟨th, by_, ea, At.set_eq2 a0.1⟩, At.set_ne a1 (by omega), ⟨q2, At.set_ne a2 (by omega), c2⟩, ⟨q3, At.set_ne a3 (by omega), c3⟩, ⟨q4, At.set_ne a4 (by omega), c4⟩, b1, Nat.le_succ_of_le b2, pn, b4, b5, b6, u.set (Or.inl rfl), tk, nm⟩
theorem noP_po {so l r : Nat} {s : PST} : pPo (noP so l r s) = pPo s := pPo_up
theorem noP_er {so l r : Nat} {s : PST} : pEr (noP so l r s) = pEr s := pEr_up

set_option maxHeartbeats 4000000 in
set_option maxRecDepth 100000 in
theorem s_mwrong0 (rx : RxM h0 h m K T L s dp g no) (e1 : pEr s = 1) : RQ G mX12_wrong d 0 [some (.ref m)] [] h (Rv fun h1 => h1 = h) := by
  obtain ⟨⟨th, by_, ea, a0⟩, -⟩ := id rx
  refine tX12_wrong_0  (r := ?_)
  refine tX12_wrong_1 (ha := (by first | assumption | (repeat (first | assumption | exact At.set_eq2 (by first | omega | (simp only [hset, hnew]; omega) | rfl | decide) | exact At.new_eq2 _ _ (by first | omega | (simp only [hset, hnew]; omega) | rfl | decide) | refine At.set_ne ?_ (by first | omega | (simp only [hset, hnew]; omega) | rfl | decide) | refine At.new_ne ?_)))) (hv := rfl) (r := ?_)
  refine tX12_wrong_4  (kt := fun c_ => by exfalso; rw [if_pos e1] at c_; exact absurd c_ (by decide)) (kf := fun _ => ?_)
  refine tX12_wrong_7  (hP := ?_)
  exact ⟨rfl, rfl⟩

set_option maxHeartbeats 4000000 in
set_option maxRecDepth 100000 in
theorem s_mw_atom (hd : 4 ≤ d) (rx : RxM h0 h m K T L s dp g no) (e1 : pEr s = 1) : RQ G mX12_atom d 0 [some (.ref m), none] [] h (Ri fun v h1 => h1 = h) := by
  have kw : ∀ k, k < 41 → ¬ kdP K s = k := fun k hk z => by unfold kdP at z; rw [if_pos e1] at z; omega
  obtain ⟨⟨th, by_, ea, a0⟩, -⟩ := id rx
  refine tX12_atom_0  (r := ?_)
  refine tX12_atom_1  (r := ?_)
  refine tX12_atom_3 (hd := (by omega)) (ha := (by first | assumption | (repeat (first | assumption | exact At.set_eq2 (by first | omega | (simp only [hset, hnew]; omega) | rfl | decide) | exact At.new_eq2 _ _ (by first | omega | (simp only [hset, hnew]; omega) | rfl | decide) | refine At.set_ne ?_ (by first | omega | (simp only [hset, hnew]; omega) | rfl | decide) | refine At.new_ne ?_)))) (call := s_mis (d := 3) rx (k := 40) (by decide)) (k := ?_)
  rintro x_ h_ ⟨hx_, e_⟩
  rw [e_, hx_, if_neg (kw 40 (by decide))]
  refine tX12_atom_6  (kf := fun c_ => by exfalso; exact c_ rfl) (kt := fun _ => ?_)
  refine tX12_atom_38  (r := ?_)
  refine tX12_atom_39  (r := ?_)
  refine tX12_atom_41 (hd := (by omega)) (ha := (by first | assumption | (repeat (first | assumption | exact At.set_eq2 (by first | omega | (simp only [hset, hnew]; omega) | rfl | decide) | exact At.new_eq2 _ _ (by first | omega | (simp only [hset, hnew]; omega) | rfl | decide) | refine At.set_ne ?_ (by first | omega | (simp only [hset, hnew]; omega) | rfl | decide) | refine At.new_ne ?_)))) (call := s_mis (d := 3) rx (k := 20) (by decide)) (k := ?_)
  rintro x_ h_ ⟨hx_, e_⟩
  rw [e_, hx_, if_neg (kw 20 (by decide))]
  refine tX12_atom_44  (kt := fun c_ => by exfalso; exact c_ rfl) (kf := fun _ => ?_)
  refine tX12_atom_47  (r := ?_)
  refine tX12_atom_48  (r := ?_)
  refine tX12_atom_50 (hd := (by omega)) (ha := (by first | assumption | (repeat (first | assumption | exact At.set_eq2 (by first | omega | (simp only [hset, hnew]; omega) | rfl | decide) | exact At.new_eq2 _ _ (by first | omega | (simp only [hset, hnew]; omega) | rfl | decide) | refine At.set_ne ?_ (by first | omega | (simp only [hset, hnew]; omega) | rfl | decide) | refine At.new_ne ?_)))) (call := s_mis (d := 3) rx (k := 22) (by decide)) (k := ?_)
  rintro x_ h_ ⟨hx_, e_⟩
  rw [e_, hx_, if_neg (kw 22 (by decide))]
  refine tX12_atom_53  (kt := fun c_ => by exfalso; exact c_ rfl) (kf := fun _ => ?_)
  refine tX12_atom_56  (r := ?_)
  refine tX12_atom_57  (r := ?_)
  refine tX12_atom_59 (hd := (by omega)) (ha := (by first | assumption | (repeat (first | assumption | exact At.set_eq2 (by first | omega | (simp only [hset, hnew]; omega) | rfl | decide) | exact At.new_eq2 _ _ (by first | omega | (simp only [hset, hnew]; omega) | rfl | decide) | refine At.set_ne ?_ (by first | omega | (simp only [hset, hnew]; omega) | rfl | decide) | refine At.new_ne ?_)))) (call := s_mis (d := 3) rx (k := 23) (by decide)) (k := ?_)
  rintro x_ h_ ⟨hx_, e_⟩
  rw [e_, hx_, if_neg (kw 23 (by decide))]
  refine tX12_atom_62  (kf := fun c_ => by exfalso; exact c_ rfl) (kt := fun _ => ?_)
  refine tX12_atom_93  (r := ?_)
  refine tX12_atom_94  (r := ?_)
  refine tX12_atom_96 (hd := (by omega)) (ha := (by first | assumption | (repeat (first | assumption | exact At.set_eq2 (by first | omega | (simp only [hset, hnew]; omega) | rfl | decide) | exact At.new_eq2 _ _ (by first | omega | (simp only [hset, hnew]; omega) | rfl | decide) | refine At.set_ne ?_ (by first | omega | (simp only [hset, hnew]; omega) | rfl | decide) | refine At.new_ne ?_)))) (call := s_mtakes (d := 3) (by omega) rx (k := 21) (by decide)) (k := ?_)
  rintro x_ h_ ⟨hx_, -, tn_⟩
  have e_ := tn_ (kw 21 (by decide))
  rw [e_, hx_, if_neg (kw 21 (by decide))]
  refine tX12_atom_99  (kf := fun c_ => by exfalso; exact c_ rfl) (kt := fun _ => ?_)
  refine tX12_atom_115  (r := ?_)
  refine tX12_atom_116  (r := ?_)
  refine tX12_atom_117 (hd := (by omega)) (ha := (by first | assumption | (repeat (first | assumption | exact At.set_eq2 (by first | omega | (simp only [hset, hnew]; omega) | rfl | decide) | exact At.new_eq2 _ _ (by first | omega | (simp only [hset, hnew]; omega) | rfl | decide) | refine At.set_ne ?_ (by first | omega | (simp only [hset, hnew]; omega) | rfl | decide) | refine At.new_ne ?_)))) (call := s_mtakes (d := 3) (by omega) rx (k := 2) (by decide)) (k := ?_)
  rintro x_ h_ ⟨hx_, -, tn_⟩
  have e_ := tn_ (kw 2 (by decide))
  rw [e_, hx_, if_neg (kw 2 (by decide))]
  refine tX12_atom_120  (kf := fun c_ => by exfalso; exact c_ rfl) (kt := fun _ => ?_)
  refine tX12_atom_135  (r := ?_)
  refine tX12_atom_136  (r := ?_)
  refine tX12_atom_138 (hd := (by omega)) (ha := (by first | assumption | (repeat (first | assumption | exact At.set_eq2 (by first | omega | (simp only [hset, hnew]; omega) | rfl | decide) | exact At.new_eq2 _ _ (by first | omega | (simp only [hset, hnew]; omega) | rfl | decide) | refine At.set_ne ?_ (by first | omega | (simp only [hset, hnew]; omega) | rfl | decide) | refine At.new_ne ?_)))) (call := s_mis (d := 3) rx (k := 27) (by decide)) (k := ?_)
  rintro x_ h_ ⟨hx_, e_⟩
  rw [e_, hx_, if_neg (kw 27 (by decide))]
  refine tX12_atom_141  (kt := fun c_ => by exfalso; exact c_ rfl) (kf := fun _ => ?_)
  refine tX12_atom_144  (r := ?_)
  refine tX12_atom_145 (hd := (by omega)) (ha := (by first | assumption | (repeat (first | assumption | exact At.set_eq2 (by first | omega | (simp only [hset, hnew]; omega) | rfl | decide) | exact At.new_eq2 _ _ (by first | omega | (simp only [hset, hnew]; omega) | rfl | decide) | refine At.set_ne ?_ (by first | omega | (simp only [hset, hnew]; omega) | rfl | decide) | refine At.new_ne ?_)))) (call := s_mwrong0 (d := 3) rx e1) (k := ?_)
  rintro h1 rfl
  refine tX12_atom_148  (r := ?_)
  refine tX12_atom_149  (hP := ?_)
  exact ⟨_, rfl, rfl⟩

set_option maxHeartbeats 4000000 in
set_option maxRecDepth 100000 in
theorem s_mw_product (hd : 5 ≤ d) (rx : RxM h0 h m K T L s dp g no) (e1 : pEr s = 1) : RQ G mX12_product d 0 [some (.ref m), none] [] h (Ri fun v h1 => h1 = h) := by
  have kw : ∀ k, k < 41 → ¬ kdP K s = k := fun k hk z => by unfold kdP at z; rw [if_pos e1] at z; omega
  obtain ⟨⟨th, by_, ea, a0⟩, -⟩ := id rx
  refine tX12_product_0  (r := ?_)
  refine tX12_product_1 (hd := (by omega)) (ha := (by first | assumption | (repeat (first | assumption | exact At.set_eq2 (by first | omega | (simp only [hset, hnew]; omega) | rfl | decide) | exact At.new_eq2 _ _ (by first | omega | (simp only [hset, hnew]; omega) | rfl | decide) | refine At.set_ne ?_ (by first | omega | (simp only [hset, hnew]; omega) | rfl | decide) | refine At.new_ne ?_)))) (call := s_mw_atom (d := 4) (by decide) rx e1) (k := ?_)
  rintro x1 h1 rfl
  refine tX12_product_4  (r := ?_)
  refine tX12_product_5  (r := ?_)
  refine tX12_product_6  (r := ?_)
  refine tX12_product_8 (hd := (by omega)) (ha := (by first | assumption | (repeat (first | assumption | exact At.set_eq2 (by first | omega | (simp only [hset, hnew]; omega) | rfl | decide) | exact At.new_eq2 _ _ (by first | omega | (simp only [hset, hnew]; omega) | rfl | decide) | refine At.set_ne ?_ (by first | omega | (simp only [hset, hnew]; omega) | rfl | decide) | refine At.new_ne ?_)))) (call := s_mtakes (d := 3) (by omega) rx (k := 38) (by decide)) (k := ?_)
  rintro x_ h_ ⟨hx_, -, tn_⟩
  have e_ := tn_ (kw 38 (by decide))
  rw [e_, hx_, if_neg (kw 38 (by decide))]
  refine tX12_product_11  (kf := fun c_ => by exfalso; exact c_ rfl) (kt := fun _ => ?_)
  refine tX12_product_29  (r := ?_)
  refine tX12_product_30  (hP := ?_)
  exact ⟨_, rfl, rfl⟩

set_option maxHeartbeats 4000000 in
set_option maxRecDepth 100000 in
theorem s_mw_value (hd : 6 ≤ d) (rx : RxM h0 h m K T L s dp g no) (e1 : pEr s = 1) : RQ G mX12_value d 0 [some (.ref m), none, none] [] h (Ri fun v h1 => h1 = h) := by
  have kw : ∀ k, k < 41 → ¬ kdP K s = k := fun k hk z => by unfold kdP at z; rw [if_pos e1] at z; omega
  obtain ⟨⟨th, by_, ea, a0⟩, -⟩ := id rx
  refine tX12_value_0  (r := ?_)
  refine tX12_value_1 (hd := (by omega)) (ha := (by first | assumption | (repeat (first | assumption | exact At.set_eq2 (by first | omega | (simp only [hset, hnew]; omega) | rfl | decide) | exact At.new_eq2 _ _ (by first | omega | (simp only [hset, hnew]; omega) | rfl | decide) | refine At.set_ne ?_ (by first | omega | (simp only [hset, hnew]; omega) | rfl | decide) | refine At.new_ne ?_)))) (call := s_mw_product (d := 5) (by decide) rx e1) (k := ?_)
  rintro x1 h1 rfl
  refine tX12_value_4  (r := ?_)
  refine tX12_value_5  (r := ?_)
  refine tX12_value_6  (r := ?_)
  refine tX12_value_8 (hd := (by omega)) (ha := (by first | assumption | (repeat (first | assumption | exact At.set_eq2 (by first | omega | (simp only [hset, hnew]; omega) | rfl | decide) | exact At.new_eq2 _ _ (by first | omega | (simp only [hset, hnew]; omega) | rfl | decide) | refine At.set_ne ?_ (by first | omega | (simp only [hset, hnew]; omega) | rfl | decide) | refine At.new_ne ?_)))) (call := s_mis (d := 3) rx (k := 36) (by decide)) (k := ?_)
  rintro x_ h_ ⟨hx_, e_⟩
  rw [e_, hx_, if_neg (kw 36 (by decide))]
  refine tX12_value_11  (kt := fun c_ => by exfalso; exact c_ rfl) (kf := fun _ => ?_)
  refine tX12_value_14  (r := ?_)
  refine tX12_value_15  (r := ?_)
  refine tX12_value_17 (hd := (by omega)) (ha := (by first | assumption | (repeat (first | assumption | exact At.set_eq2 (by first | omega | (simp only [hset, hnew]; omega) | rfl | decide) | exact At.new_eq2 _ _ (by first | omega | (simp only [hset, hnew]; omega) | rfl | decide) | refine At.set_ne ?_ (by first | omega | (simp only [hset, hnew]; omega) | rfl | decide) | refine At.new_ne ?_)))) (call := s_mis (d := 3) rx (k := 37) (by decide)) (k := ?_)
  rintro x_ h_ ⟨hx_, e_⟩
  rw [e_, hx_, if_neg (kw 37 (by decide))]
  refine tX12_value_20  (kf := fun c_ => by exfalso; exact c_ rfl) (kt := fun _ => ?_)
  refine tX12_value_57  (r := ?_)
  refine tX12_value_58  (hP := ?_)
  exact ⟨_, rfl, rfl⟩

set_option maxHeartbeats 4000000 in
set_option maxRecDepth 100000 in
theorem s_ma_num (hd : 7 ≤ d) (rx : RxM h0 h m K T L s dp g no) (ek : kdP K s = 40) : RQ G mX12_atom d 0 [some (.ref m), none] [] h (Ri fun v h1 => ∃ n1, RxM h0 h1 m K T L (noP 31 (vaP K s) 0 (tkP K 40 (stP 40 (vaP K s) s)), nNo (pBk s)).1 dp g n1 ∧ (pEr (noP 31 (vaP K s) 0 (tkP K 40 (stP 40 (vaP K s) s)), nNo (pBk s)).1 = 0 → v = nI (noP 31 (vaP K s) 0 (tkP K 40 (stP 40 (vaP K s) s)), nNo (pBk s)).2) ∧ n1 + pPo s ≤ no + pPo (noP 31 (vaP K s) 0 (tkP K 40 (stP 40 (vaP K s) s)), nNo (pBk s)).1) := by
  obtain ⟨⟨th, by_, ea, a0⟩, a1, ⟨q2, a2, c2⟩, ⟨q3, a3, c3⟩, ⟨q4, a4, c4⟩, b1, b2, b3, b4, b5, b6, u, tk, nm⟩ := id rx
  obtain ⟨⟨v1, y1, x1⟩, ⟨v2, y2, x2⟩, ⟨v3, y3, x3⟩, ⟨v4, y4, x4⟩, ⟨v5, y5, x5⟩, tw⟩ := id tk
  have k401 := tw.2.1
  have w1 := u.at y1 (by omega) (by omega) (by omega)
  have w2 := u.at y2 (by omega) (by omega) (by omega)
  have w3 := u.at y3 (by omega) (by omega) (by omega)
  have w4 := u.at y4 (by omega) (by omega) (by omega)
  have w5 := u.at y5 (by omega) (by omega) (by omega)
  have z0 := a0.1
  have z1 := a1.1
  have l2_ := a2.1
  have l3_ := a3.1
  have l4_ := a4.1
  have vs : vaP K s = K.2.2.2 (pPo s) := if_pos b3
  obtain ⟨et, e1⟩ := tkP_y (K := K) (s := s) ek (by omega)
  have l1_ := (rx.nx (by omega)).1
  have kv : K.2.1 (pPo s) = kdP K s := by
    have e2 : kdP K s = kdT K (pPo s) := if_neg e1
    rw [e2, rx.ne42.1]
  refine tX12_atom_0  (r := ?_)
  refine tX12_atom_1  (r := ?_)
  refine tX12_atom_3 (hd := (by omega)) (ha := (by first | assumption | (repeat (first | assumption | exact At.set_eq2 (by first | omega | (simp only [hset, hnew]; omega) | rfl | decide) | exact At.new_eq2 _ _ (by first | omega | (simp only [hset, hnew]; omega) | rfl | decide) | refine At.set_ne ?_ (by first | omega | (simp only [hset, hnew]; omega) | rfl | decide) | refine At.new_ne ?_)))) (call := s_mis (d := 2) rx (k := 40) (by decide)) (k := ?_)
  rintro x_ h_ ⟨hx_, e_⟩
  rw [e_, hx_, if_pos ek]
  refine tX12_atom_6  (kt := fun c_ => by exfalso; exact absurd c_ (by decide)) (kf := fun _ => ?_)
  refine tX12_atom_9  (r := ?_)
  refine tX12_atom_10  (r := ?_)
  refine tX12_atom_11 (ha := (by first | assumption | (repeat (first | assumption | exact At.set_eq2 (by first | omega | (simp only [hset, hnew]; omega) | rfl | decide) | exact At.new_eq2 _ _ (by first | omega | (simp only [hset, hnew]; omega) | rfl | decide) | refine At.set_ne ?_ (by first | omega | (simp only [hset, hnew]; omega) | rfl | decide) | refine At.new_ne ?_)))) (hv := rfl) (r := ?_)
  refine tX12_atom_14  (r := ?_)
  refine tX12_atom_15  (r := ?_)
  rw [nI_add]
  refine tX12_atom_16 (ha := (by first | assumption | (repeat (first | assumption | exact At.set_eq2 (by first | omega | (simp only [hset, hnew]; omega) | rfl | decide) | exact At.new_eq2 _ _ (by first | omega | (simp only [hset, hnew]; omega) | rfl | decide) | refine At.set_ne ?_ (by first | omega | (simp only [hset, hnew]; omega) | rfl | decide) | refine At.new_ne ?_)))) (hlen := rfl) (r := ?_)
  have rx1 := rx.next a0 (by omega)
  have z0b := z0
  refine tX12_atom_19  (r := ?_)
  refine tX12_atom_20  (r := ?_)
  refine tX12_atom_22  (r := ?_)
  refine tX12_atom_23 (ha := (by first | assumption | (repeat (first | assumption | exact At.set_eq2 (by first | omega | (simp only [hset, hnew]; omega) | rfl | decide) | exact At.new_eq2 _ _ (by first | omega | (simp only [hset, hnew]; omega) | rfl | decide) | refine At.set_ne ?_ (by first | omega | (simp only [hset, hnew]; omega) | rfl | decide) | refine At.new_ne ?_)))) (hv := rfl) (r := ?_)
  refine tX12_atom_26  (r := ?_)
  refine tX12_atom_27 (ha := (by first | assumption | (repeat (first | assumption | exact At.set_eq2 (by first | omega | (simp only [hset, hnew]; omega) | rfl | decide) | exact At.new_eq2 _ _ (by first | omega | (simp only [hset, hnew]; omega) | rfl | decide) | refine At.set_ne ?_ (by first | omega | (simp only [hset, hnew]; omega) | rfl | decide) | refine At.new_ne ?_)))) (hv := rfl) (r := ?_)
  refine tX12_atom_30  (r := ?_)
  refine tX12_atom_31  (r := ?_)
  rw [nI_subN (by omega) (by omega), Nat.add_sub_cancel]
  refine tX12_atom_32 (ha := (At.set_ne w3 (by omega))) (hx := rfl) (hj := (by omega)) (hn := (by decide)) (r := ?_)
  rw [x3 _ b3 (kv.trans ek), ← vs]
  refine tX12_atom_33  (r := ?_)
  refine tX12_atom_34 (hd := (by omega)) (ha := (by first | assumption | (repeat (first | assumption | exact At.set_eq2 (by first | omega | (simp only [hset, hnew]; omega) | rfl | decide) | exact At.new_eq2 _ _ (by first | omega | (simp only [hset, hnew]; omega) | rfl | decide) | refine At.set_ne ?_ (by first | omega | (simp only [hset, hnew]; omega) | rfl | decide) | refine At.new_ne ?_)))) (call := s_mnode (d := 6) rx1 (Nat.lt_succ_of_le b2) (so := 31) (lN := vaP K s) (rN := 0) (fun _ => rfl) (fun _ => rfl) (fun _ => rfl)) (k := ?_)
  rintro v2 h2 ⟨hv2, rx2⟩
  refine tX12_atom_37  (hP := ?_)
  have EQ : Eqv (noP (31) (vaP K s) 0 (pPo s + 1, pEr s, pEt s, pDf s)) (noP (31) (vaP K s) 0 (tkP K (40) (stP 40 (vaP K s) s))) := by
    rw [← et]
    exact Eqv.no (Eqv.tk (Eqv.st _).symm)
  refine ⟨_, rfl, _, rx2.eqv EQ, fun z => hv2 ?_, ?_⟩
  · have z2 := EQ.2.1.trans z
    rw [noP_er] at z2
    exact z2
  · rw [← EQ.1, noP_po]
    show no + 1 + pPo s ≤ no + (pPo s + 1)
    omega

set_option maxHeartbeats 4000000 in
set_option maxRecDepth 100000 in
theorem s_ma_20 (hd : 7 ≤ d) (rx : RxM h0 h m K T L s dp g no) (ek : kdP K s = 20) : RQ G mX12_atom d 0 [some (.ref m), none] [] h (Ri fun v h1 => ∃ n1, RxM h0 h1 m K T L (noP 20 0 0 (tkP K 20 (stP 20 0 s)), nNo (pBk s)).1 dp g n1 ∧ (pEr (noP 20 0 0 (tkP K 20 (stP 20 0 s)), nNo (pBk s)).1 = 0 → v = nI (noP 20 0 0 (tkP K 20 (stP 20 0 s)), nNo (pBk s)).2) ∧ n1 + pPo s ≤ no + pPo (noP 20 0 0 (tkP K 20 (stP 20 0 s)), nNo (pBk s)).1) := by
  obtain ⟨⟨th, by_, ea, a0⟩, a1, ⟨q2, a2, c2⟩, ⟨q3, a3, c3⟩, ⟨q4, a4, c4⟩, b1, b2, b3, b4, b5, b6, u, tk, nm⟩ := id rx
  obtain ⟨⟨v1, y1, x1⟩, ⟨v2, y2, x2⟩, ⟨v3, y3, x3⟩, ⟨v4, y4, x4⟩, ⟨v5, y5, x5⟩, tw⟩ := id tk
  have k401 := tw.2.1
  have w1 := u.at y1 (by omega) (by omega) (by omega)
  have w2 := u.at y2 (by omega) (by omega) (by omega)
  have w3 := u.at y3 (by omega) (by omega) (by omega)
  have w4 := u.at y4 (by omega) (by omega) (by omega)
  have w5 := u.at y5 (by omega) (by omega) (by omega)
  have z0 := a0.1
  have z1 := a1.1
  have l2_ := a2.1
  have l3_ := a3.1
  have l4_ := a4.1
  have vs : vaP K s = K.2.2.2 (pPo s) := if_pos b3
  obtain ⟨et, e1⟩ := tkP_y (K := K) (s := s) ek (by omega)
  have l1_ := (rx.nx (by omega)).1
  have kv : K.2.1 (pPo s) = kdP K s := by
    have e2 : kdP K s = kdT K (pPo s) := if_neg e1
    rw [e2, rx.ne42.1]
  refine tX12_atom_0  (r := ?_)
  refine tX12_atom_1  (r := ?_)
  refine tX12_atom_3 (hd := (by omega)) (ha := (by first | assumption | (repeat (first | assumption | exact At.set_eq2 (by first | omega | (simp only [hset, hnew]; omega) | rfl | decide) | exact At.new_eq2 _ _ (by first | omega | (simp only [hset, hnew]; omega) | rfl | decide) | refine At.set_ne ?_ (by first | omega | (simp only [hset, hnew]; omega) | rfl | decide) | refine At.new_ne ?_)))) (call := s_mis (d := 2) rx (k := 40) (by decide)) (k := ?_)
  rintro x_ h_ ⟨hx_, e_⟩
  rw [e_, hx_, if_neg (by omega)]
  refine tX12_atom_6  (kf := fun c_ => by exfalso; exact c_ rfl) (kt := fun _ => ?_)
  refine tX12_atom_38  (r := ?_)
  refine tX12_atom_39  (r := ?_)
  refine tX12_atom_41 (hd := (by omega)) (ha := (by first | assumption | (repeat (first | assumption | exact At.set_eq2 (by first | omega | (simp only [hset, hnew]; omega) | rfl | decide) | exact At.new_eq2 _ _ (by first | omega | (simp only [hset, hnew]; omega) | rfl | decide) | refine At.set_ne ?_ (by first | omega | (simp only [hset, hnew]; omega) | rfl | decide) | refine At.new_ne ?_)))) (call := s_mis (d := 2) rx (k := 20) (by decide)) (k := ?_)
  rintro x_ h_ ⟨hx_, e_⟩
  rw [e_, hx_, if_pos ek]
  refine tX12_atom_44  (kf := fun c_ => by exfalso; exact absurd c_ (by decide)) (kt := fun _ => ?_)
  refine tX12_atom_65  (r := ?_)
  refine tX12_atom_66  (r := ?_)
  refine tX12_atom_67 (ha := (by first | assumption | (repeat (first | assumption | exact At.set_eq2 (by first | omega | (simp only [hset, hnew]; omega) | rfl | decide) | exact At.new_eq2 _ _ (by first | omega | (simp only [hset, hnew]; omega) | rfl | decide) | refine At.set_ne ?_ (by first | omega | (simp only [hset, hnew]; omega) | rfl | decide) | refine At.new_ne ?_)))) (hv := rfl) (r := ?_)
  refine tX12_atom_70  (r := ?_)
  refine tX12_atom_71  (r := ?_)
  rw [nI_add]
  refine tX12_atom_72 (ha := (by first | assumption | (repeat (first | assumption | exact At.set_eq2 (by first | omega | (simp only [hset, hnew]; omega) | rfl | decide) | exact At.new_eq2 _ _ (by first | omega | (simp only [hset, hnew]; omega) | rfl | decide) | refine At.set_ne ?_ (by first | omega | (simp only [hset, hnew]; omega) | rfl | decide) | refine At.new_ne ?_)))) (hlen := rfl) (r := ?_)
  have rx1 := rx.next a0 (by omega)
  have z0b := z0
  refine tX12_atom_75  (r := ?_)
  refine tX12_atom_76  (r := ?_)
  refine tX12_atom_77 (ha := (by first | assumption | (repeat (first | assumption | exact At.set_eq2 (by first | omega | (simp only [hset, hnew]; omega) | rfl | decide) | exact At.new_eq2 _ _ (by first | omega | (simp only [hset, hnew]; omega) | rfl | decide) | refine At.set_ne ?_ (by first | omega | (simp only [hset, hnew]; omega) | rfl | decide) | refine At.new_ne ?_)))) (hv := rfl) (r := ?_)
  refine tX12_atom_80  (r := ?_)
  refine tX12_atom_81 (ha := (by first | assumption | (repeat (first | assumption | exact At.set_eq2 (by first | omega | (simp only [hset, hnew]; omega) | rfl | decide) | exact At.new_eq2 _ _ (by first | omega | (simp only [hset, hnew]; omega) | rfl | decide) | refine At.set_ne ?_ (by first | omega | (simp only [hset, hnew]; omega) | rfl | decide) | refine At.new_ne ?_)))) (hv := rfl) (r := ?_)
  refine tX12_atom_84  (r := ?_)
  refine tX12_atom_85  (r := ?_)
  rw [nI_subN (by omega) (by omega), Nat.add_sub_cancel]
  refine tX12_atom_86 (ha := (At.set_ne w2 (by omega))) (hx := rfl) (hj := (by omega)) (hn := (by decide)) (r := ?_)
  rw [x2 _ b3]
  show RQ _ _ _ _ _ (.int (nI (soK (K.2.1 (pPo s)))) :: _) _ _
  rw [kv, ek]
  show RQ _ _ _ _ _ (.int (nI 20) :: _) _ _
  refine tX12_atom_87  (r := ?_)
  refine tX12_atom_88  (r := ?_)
  refine tX12_atom_89 (hd := (by omega)) (ha := (by first | assumption | (repeat (first | assumption | exact At.set_eq2 (by first | omega | (simp only [hset, hnew]; omega) | rfl | decide) | exact At.new_eq2 _ _ (by first | omega | (simp only [hset, hnew]; omega) | rfl | decide) | refine At.set_ne ?_ (by first | omega | (simp only [hset, hnew]; omega) | rfl | decide) | refine At.new_ne ?_)))) (call := s_mnode (d := 6) rx1 (Nat.lt_succ_of_le b2) (so := 20) (lN := 0) (rN := 0) (fun _ => rfl) (fun _ => rfl) (fun _ => rfl)) (k := ?_)
  rintro v2 h2 ⟨hv2, rx2⟩
  refine tX12_atom_92  (hP := ?_)
  have EQ : Eqv (noP (20) (0) 0 (pPo s + 1, pEr s, pEt s, pDf s)) (noP (20) (0) 0 (tkP K (20) (stP 20 0 s))) := by
    rw [← et]
    exact Eqv.no (Eqv.tk (Eqv.st _).symm)
  refine ⟨_, rfl, _, rx2.eqv EQ, fun z => hv2 ?_, ?_⟩
  · have z2 := EQ.2.1.trans z
    rw [noP_er] at z2
    exact z2
  · rw [← EQ.1, noP_po]
    show no + 1 + pPo s ≤ no + (pPo s + 1)
    omega

set_option maxHeartbeats 4000000 in
set_option maxRecDepth 100000 in
theorem s_ma_22 (hd : 7 ≤ d) (rx : RxM h0 h m K T L s dp g no) (ek : kdP K s = 22) : RQ G mX12_atom d 0 [some (.ref m), none] [] h (Ri fun v h1 => ∃ n1, RxM h0 h1 m K T L (noP 22 0 0 (tkP K 22 (stP 22 0 s)), nNo (pBk s)).1 dp g n1 ∧ (pEr (noP 22 0 0 (tkP K 22 (stP 22 0 s)), nNo (pBk s)).1 = 0 → v = nI (noP 22 0 0 (tkP K 22 (stP 22 0 s)), nNo (pBk s)).2) ∧ n1 + pPo s ≤ no + pPo (noP 22 0 0 (tkP K 22 (stP 22 0 s)), nNo (pBk s)).1) := by
  obtain ⟨⟨th, by_, ea, a0⟩, a1, ⟨q2, a2, c2⟩, ⟨q3, a3, c3⟩, ⟨q4, a4, c4⟩, b1, b2, b3, b4, b5, b6, u, tk, nm⟩ := id rx
  obtain ⟨⟨v1, y1, x1⟩, ⟨v2, y2, x2⟩, ⟨v3, y3, x3⟩, ⟨v4, y4, x4⟩, ⟨v5, y5, x5⟩, tw⟩ := id tk
  have k401 := tw.2.1
  have w1 := u.at y1 (by omega) (by omega) (by omega)
  have w2 := u.at y2 (by omega) (by omega) (by omega)
  have w3 := u.at y3 (by omega) (by omega) (by omega)
  have w4 := u.at y4 (by omega) (by omega) (by omega)
  have w5 := u.at y5 (by omega) (by omega) (by omega)
  have z0 := a0.1
  have z1 := a1.1
  have l2_ := a2.1
  have l3_ := a3.1
  have l4_ := a4.1
  have vs : vaP K s = K.2.2.2 (pPo s) := if_pos b3
  obtain ⟨et, e1⟩ := tkP_y (K := K) (s := s) ek (by omega)
  have l1_ := (rx.nx (by omega)).1
  have kv : K.2.1 (pPo s) = kdP K s := by
    have e2 : kdP K s = kdT K (pPo s) := if_neg e1
    rw [e2, rx.ne42.1]
  refine tX12_atom_0  (r := ?_)
  refine tX12_atom_1  (r := ?_)
  refine tX12_atom_3 (hd := (by omega)) (ha := (by first | assumption | (repeat (first | assumption | exact At.set_eq2 (by first | omega | (simp only [hset, hnew]; omega) | rfl | decide) | exact At.new_eq2 _ _ (by first | omega | (simp only [hset, hnew]; omega) | rfl | decide) | refine At.set_ne ?_ (by first | omega | (simp only [hset, hnew]; omega) | rfl | decide) | refine At.new_ne ?_)))) (call := s_mis (d := 2) rx (k := 40) (by decide)) (k := ?_)
  rintro x_ h_ ⟨hx_, e_⟩
  rw [e_, hx_, if_neg (by omega)]
  refine tX12_atom_6  (kf := fun c_ => by exfalso; exact c_ rfl) (kt := fun _ => ?_)
  refine tX12_atom_38  (r := ?_)
  refine tX12_atom_39  (r := ?_)
  refine tX12_atom_41 (hd := (by omega)) (ha := (by first | assumption | (repeat (first | assumption | exact At.set_eq2 (by first | omega | (simp only [hset, hnew]; omega) | rfl | decide) | exact At.new_eq2 _ _ (by first | omega | (simp only [hset, hnew]; omega) | rfl | decide) | refine At.set_ne ?_ (by first | omega | (simp only [hset, hnew]; omega) | rfl | decide) | refine At.new_ne ?_)))) (call := s_mis (d := 2) rx (k := 20) (by decide)) (k := ?_)
  rintro x_ h_ ⟨hx_, e_⟩
  rw [e_, hx_, if_neg (by omega)]
  refine tX12_atom_44  (kt := fun c_ => by exfalso; exact c_ rfl) (kf := fun _ => ?_)
  refine tX12_atom_47  (r := ?_)
  refine tX12_atom_48  (r := ?_)
  refine tX12_atom_50 (hd := (by omega)) (ha := (by first | assumption | (repeat (first | assumption | exact At.set_eq2 (by first | omega | (simp only [hset, hnew]; omega) | rfl | decide) | exact At.new_eq2 _ _ (by first | omega | (simp only [hset, hnew]; omega) | rfl | decide) | refine At.set_ne ?_ (by first | omega | (simp only [hset, hnew]; omega) | rfl | decide) | refine At.new_ne ?_)))) (call := s_mis (d := 2) rx (k := 22) (by decide)) (k := ?_)
  rintro x_ h_ ⟨hx_, e_⟩
  rw [e_, hx_, if_pos ek]
  refine tX12_atom_53  (kf := fun c_ => by exfalso; exact absurd c_ (by decide)) (kt := fun _ => ?_)
  refine tX12_atom_65  (r := ?_)
  refine tX12_atom_66  (r := ?_)
  refine tX12_atom_67 (ha := (by first | assumption | (repeat (first | assumption | exact At.set_eq2 (by first | omega | (simp only [hset, hnew]; omega) | rfl | decide) | exact At.new_eq2 _ _ (by first | omega | (simp only [hset, hnew]; omega) | rfl | decide) | refine At.set_ne ?_ (by first | omega | (simp only [hset, hnew]; omega) | rfl | decide) | refine At.new_ne ?_)))) (hv := rfl) (r := ?_)
  refine tX12_atom_70  (r := ?_)
  refine tX12_atom_71  (r := ?_)
  rw [nI_add]
  refine tX12_atom_72 (ha := (by first | assumption | (repeat (first | assumption | exact At.set_eq2 (by first | omega | (simp only [hset, hnew]; omega) | rfl | decide) | exact At.new_eq2 _ _ (by first | omega | (simp only [hset, hnew]; omega) | rfl | decide) | refine At.set_ne ?_ (by first | omega | (simp only [hset, hnew]; omega) | rfl | decide) | refine At.new_ne ?_)))) (hlen := rfl) (r := ?_)
  have rx1 := rx.next a0 (by omega)
  have z0b := z0
  refine tX12_atom_75  (r := ?_)
  refine tX12_atom_76  (r := ?_)
  refine tX12_atom_77 (ha := (by first | assumption | (repeat (first | assumption | exact At.set_eq2 (by first | omega | (simp only [hset, hnew]; omega) | rfl | decide) | exact At.new_eq2 _ _ (by first | omega | (simp only [hset, hnew]; omega) | rfl | decide) | refine At.set_ne ?_ (by first | omega | (simp only [hset, hnew]; omega) | rfl | decide) | refine At.new_ne ?_)))) (hv := rfl) (r := ?_)
  refine tX12_atom_80  (r := ?_)
  refine tX12_atom_81 (ha := (by first | assumption | (repeat (first | assumption | exact At.set_eq2 (by first | omega | (simp only [hset, hnew]; omega) | rfl | decide) | exact At.new_eq2 _ _ (by first | omega | (simp only [hset, hnew]; omega) | rfl | decide) | refine At.set_ne ?_ (by first | omega | (simp only [hset, hnew]; omega) | rfl | decide) | refine At.new_ne ?_)))) (hv := rfl) (r := ?_)
  refine tX12_atom_84  (r := ?_)
  refine tX12_atom_85  (r := ?_)
  rw [nI_subN (by omega) (by omega), Nat.add_sub_cancel]
  refine tX12_atom_86 (ha := (At.set_ne w2 (by omega))) (hx := rfl) (hj := (by omega)) (hn := (by decide)) (r := ?_)
  rw [x2 _ b3]
  show RQ _ _ _ _ _ (.int (nI (soK (K.2.1 (pPo s)))) :: _) _ _
  rw [kv, ek]
  show RQ _ _ _ _ _ (.int (nI 22) :: _) _ _
  refine tX12_atom_87  (r := ?_)
  refine tX12_atom_88  (r := ?_)
  refine tX12_atom_89 (hd := (by omega)) (ha := (by first | assumption | (repeat (first | assumption | exact At.set_eq2 (by first | omega | (simp only [hset, hnew]; omega) | rfl | decide) | exact At.new_eq2 _ _ (by first | omega | (simp only [hset, hnew]; omega) | rfl | decide) | refine At.set_ne ?_ (by first | omega | (simp only [hset, hnew]; omega) | rfl | decide) | refine At.new_ne ?_)))) (call := s_mnode (d := 6) rx1 (Nat.lt_succ_of_le b2) (so := 22) (lN := 0) (rN := 0) (fun _ => rfl) (fun _ => rfl) (fun _ => rfl)) (k := ?_)
  rintro v2 h2 ⟨hv2, rx2⟩
  refine tX12_atom_92  (hP := ?_)
  have EQ : Eqv (noP (22) (0) 0 (pPo s + 1, pEr s, pEt s, pDf s)) (noP (22) (0) 0 (tkP K (22) (stP 22 0 s))) := by
    rw [← et]
    exact Eqv.no (Eqv.tk (Eqv.st _).symm)
  refine ⟨_, rfl, _, rx2.eqv EQ, fun z => hv2 ?_, ?_⟩
  · have z2 := EQ.2.1.trans z
    rw [noP_er] at z2
    exact z2
  · rw [← EQ.1, noP_po]
    show no + 1 + pPo s ≤ no + (pPo s + 1)
    omega

set_option maxHeartbeats 4000000 in
set_option maxRecDepth 100000 in
theorem s_ma_23 (hd : 7 ≤ d) (rx : RxM h0 h m K T L s dp g no) (ek : kdP K s = 23) : RQ G mX12_atom d 0 [some (.ref m), none] [] h (Ri fun v h1 => ∃ n1, RxM h0 h1 m K T L (noP 23 0 0 (tkP K 23 (stP 23 0 s)), nNo (pBk s)).1 dp g n1 ∧ (pEr (noP 23 0 0 (tkP K 23 (stP 23 0 s)), nNo (pBk s)).1 = 0 → v = nI (noP 23 0 0 (tkP K 23 (stP 23 0 s)), nNo (pBk s)).2) ∧ n1 + pPo s ≤ no + pPo (noP 23 0 0 (tkP K 23 (stP 23 0 s)), nNo (pBk s)).1) := by
  obtain ⟨⟨th, by_, ea, a0⟩, a1, ⟨q2, a2, c2⟩, ⟨q3, a3, c3⟩, ⟨q4, a4, c4⟩, b1, b2, b3, b4, b5, b6, u, tk, nm⟩ := id rx
  obtain ⟨⟨v1, y1, x1⟩, ⟨v2, y2, x2⟩, ⟨v3, y3, x3⟩, ⟨v4, y4, x4⟩, ⟨v5, y5, x5⟩, tw⟩ := id tk
  have k401 := tw.2.1
  have w1 := u.at y1 (by omega) (by omega) (by omega)
  have w2 := u.at y2 (by omega) (by omega) (by omega)
  have w3 := u.at y3 (by omega) (by omega) (by omega)
  have w4 := u.at y4 (by omega) (by omega) (by omega)
  have w5 := u.at y5 (by omega) (by omega) (by omega)
  have z0 := a0.1
  have z1 := a1.1
  have l2_ := a2.1
  have l3_ := a3.1
  have l4_ := a4.1
  have vs : vaP K s = K.2.2.2 (pPo s) := if_pos b3
  obtain ⟨et, e1⟩ := tkP_y (K := K) (s := s) ek (by omega)
  have l1_ := (rx.nx (by omega)).1
  have kv : K.2.1 (pPo s) = kdP K s := by
    have e2 : kdP K s = kdT K (pPo s) := if_neg e1
    rw [e2, rx.ne42.1]
  refine tX12_atom_0  (r := ?_)
  refine tX12_atom_1  (r := ?_)
  refine tX12_atom_3 (hd := (by omega)) (ha := (by first | assumption | (repeat (first | assumption | exact At.set_eq2 (by first | omega | (simp only [hset, hnew]; omega) | rfl | decide) | exact At.new_eq2 _ _ (by first | omega | (simp only [hset, hnew]; omega) | rfl | decide) | refine At.set_ne ?_ (by first | omega | (simp only [hset, hnew]; omega) | rfl | decide) | refine At.new_ne ?_)))) (call := s_mis (d := 2) rx (k := 40) (by decide)) (k := ?_)
  rintro x_ h_ ⟨hx_, e_⟩
  rw [e_, hx_, if_neg (by omega)]
  refine tX12_atom_6  (kf := fun c_ => by exfalso; exact c_ rfl) (kt := fun _ => ?_)
  refine tX12_atom_38  (r := ?_)
  refine tX12_atom_39  (r := ?_)
  refine tX12_atom_41 (hd := (by omega)) (ha := (by first | assumption | (repeat (first | assumption | exact At.set_eq2 (by first | omega | (simp only [hset, hnew]; omega) | rfl | decide) | exact At.new_eq2 _ _ (by first | omega | (simp only [hset, hnew]; omega) | rfl | decide) | refine At.set_ne ?_ (by first | omega | (simp only [hset, hnew]; omega) | rfl | decide) | refine At.new_ne ?_)))) (call := s_mis (d := 2) rx (k := 20) (by decide)) (k := ?_)
  rintro x_ h_ ⟨hx_, e_⟩
  rw [e_, hx_, if_neg (by omega)]
  refine tX12_atom_44  (kt := fun c_ => by exfalso; exact c_ rfl) (kf := fun _ => ?_)
  refine tX12_atom_47  (r := ?_)
  refine tX12_atom_48  (r := ?_)
  refine tX12_atom_50 (hd := (by omega)) (ha := (by first | assumption | (repeat (first | assumption | exact At.set_eq2 (by first | omega | (simp only [hset, hnew]; omega) | rfl | decide) | exact At.new_eq2 _ _ (by first | omega | (simp only [hset, hnew]; omega) | rfl | decide) | refine At.set_ne ?_ (by first | omega | (simp only [hset, hnew]; omega) | rfl | decide) | refine At.new_ne ?_)))) (call := s_mis (d := 2) rx (k := 22) (by decide)) (k := ?_)
  rintro x_ h_ ⟨hx_, e_⟩
  rw [e_, hx_, if_neg (by omega)]
  refine tX12_atom_53  (kt := fun c_ => by exfalso; exact c_ rfl) (kf := fun _ => ?_)
  refine tX12_atom_56  (r := ?_)
  refine tX12_atom_57  (r := ?_)
  refine tX12_atom_59 (hd := (by omega)) (ha := (by first | assumption | (repeat (first | assumption | exact At.set_eq2 (by first | omega | (simp only [hset, hnew]; omega) | rfl | decide) | exact At.new_eq2 _ _ (by first | omega | (simp only [hset, hnew]; omega) | rfl | decide) | refine At.set_ne ?_ (by first | omega | (simp only [hset, hnew]; omega) | rfl | decide) | refine At.new_ne ?_)))) (call := s_mis (d := 2) rx (k := 23) (by decide)) (k := ?_)
  rintro x_ h_ ⟨hx_, e_⟩
  rw [e_, hx_, if_pos ek]
  refine tX12_atom_62  (kt := fun c_ => by exfalso; exact absurd c_ (by decide)) (kf := fun _ => ?_)
  refine tX12_atom_65  (r := ?_)
  refine tX12_atom_66  (r := ?_)
  refine tX12_atom_67 (ha := (by first | assumption | (repeat (first | assumption | exact At.set_eq2 (by first | omega | (simp only [hset, hnew]; omega) | rfl | decide) | exact At.new_eq2 _ _ (by first | omega | (simp only [hset, hnew]; omega) | rfl | decide) | refine At.set_ne ?_ (by first | omega | (simp only [hset, hnew]; omega) | rfl | decide) | refine At.new_ne ?_)))) (hv := rfl) (r := ?_)
  refine tX12_atom_70  (r := ?_)
  refine tX12_atom_71  (r := ?_)
  rw [nI_add]
  refine tX12_atom_72 (ha := (by first | assumption | (repeat (first | assumption | exact At.set_eq2 (by first | omega | (simp only [hset, hnew]; omega) | rfl | decide) | exact At.new_eq2 _ _ (by first | omega | (simp only [hset, hnew]; omega) | rfl | decide) | refine At.set_ne ?_ (by first | omega | (simp only [hset, hnew]; omega) | rfl | decide) | refine At.new_ne ?_)))) (hlen := rfl) (r := ?_)
  have rx1 := rx.next a0 (by omega)
  have z0b := z0
  refine tX12_atom_75  (r := ?_)
  refine tX12_atom_76  (r := ?_)
  refine tX12_atom_77 (ha := (by first | assumption | (repeat (first | assumption | exact At.set_eq2 (by first | omega | (simp only [hset, hnew]; omega) | rfl | decide) | exact At.new_eq2 _ _ (by first | omega | (simp only [hset, hnew]; omega) | rfl | decide) | refine At.set_ne ?_ (by first | omega | (simp only [hset, hnew]; omega) | rfl | decide) | refine At.new_ne ?_)))) (hv := rfl) (r := ?_)
  refine tX12_atom_80  (r := ?_)
  refine tX12_atom_81 (ha := (by first | assumption | (repeat (first | assumption | exact At.set_eq2 (by first | omega | (simp only [hset, hnew]; omega) | rfl | decide) | exact At.new_eq2 _ _ (by first | omega | (simp only [hset, hnew]; omega) | rfl | decide) | refine At.set_ne ?_ (by first | omega | (simp only [hset, hnew]; omega) | rfl | decide) | refine At.new_ne ?_)))) (hv := rfl) (r := ?_)
  refine tX12_atom_84  (r := ?_)
  refine tX12_atom_85  (r := ?_)
  rw [nI_subN (by omega) (by omega), Nat.add_sub_cancel]
  refine tX12_atom_86 (ha := (At.set_ne w2 (by omega))) (hx := rfl) (hj := (by omega)) (hn := (by decide)) (r := ?_)
  rw [x2 _ b3]
  show RQ _ _ _ _ _ (.int (nI (soK (K.2.1 (pPo s)))) :: _) _ _
  rw [kv, ek]
  show RQ _ _ _ _ _ (.int (nI 23) :: _) _ _
  refine tX12_atom_87  (r := ?_)
  refine tX12_atom_88  (r := ?_)
  refine tX12_atom_89 (hd := (by omega)) (ha := (by first | assumption | (repeat (first | assumption | exact At.set_eq2 (by first | omega | (simp only [hset, hnew]; omega) | rfl | decide) | exact At.new_eq2 _ _ (by first | omega | (simp only [hset, hnew]; omega) | rfl | decide) | refine At.set_ne ?_ (by first | omega | (simp only [hset, hnew]; omega) | rfl | decide) | refine At.new_ne ?_)))) (call := s_mnode (d := 6) rx1 (Nat.lt_succ_of_le b2) (so := 23) (lN := 0) (rN := 0) (fun _ => rfl) (fun _ => rfl) (fun _ => rfl)) (k := ?_)
  rintro v2 h2 ⟨hv2, rx2⟩
  refine tX12_atom_92  (hP := ?_)
  have EQ : Eqv (noP (23) (0) 0 (pPo s + 1, pEr s, pEt s, pDf s)) (noP (23) (0) 0 (tkP K (23) (stP 23 0 s))) := by
    rw [← et]
    exact Eqv.no (Eqv.tk (Eqv.st _).symm)
  refine ⟨_, rfl, _, rx2.eqv EQ, fun z => hv2 ?_, ?_⟩
  · have z2 := EQ.2.1.trans z
    rw [noP_er] at z2
    exact z2
  · rw [← EQ.1, noP_po]
    show no + 1 + pPo s ≤ no + (pPo s + 1)
    omega

set_option maxHeartbeats 4000000 in
set_option maxRecDepth 100000 in
theorem s_ma_21 (hd : 7 ≤ d) (rx : RxM h0 h m K T L s dp g no) (ek : kdP K s = 21) : RQ G mX12_atom d 0 [some (.ref m), none] [] h (Ri fun v h1 => ∃ n1, RxM h0 h1 m K T L (lkP K 21 s).1 dp g n1 ∧ (pEr (lkP K 21 s).1 = 0 → v = nI (lkP K 21 s).2) ∧ n1 + pPo s ≤ no + pPo (lkP K 21 s).1) := by
  obtain ⟨⟨th, by_, ea, a0⟩, a1, ⟨q2, a2, c2⟩, ⟨q3, a3, c3⟩, ⟨q4, a4, c4⟩, b1, b2, b3, b4, b5, b6, u, tk, nm⟩ := id rx
  obtain ⟨⟨v1, y1, x1⟩, ⟨v2, y2, x2⟩, ⟨v3, y3, x3⟩, ⟨v4, y4, x4⟩, ⟨v5, y5, x5⟩, tw⟩ := id tk
  have k401 := tw.2.1
  have w1 := u.at y1 (by omega) (by omega) (by omega)
  have w2 := u.at y2 (by omega) (by omega) (by omega)
  have w3 := u.at y3 (by omega) (by omega) (by omega)
  have w4 := u.at y4 (by omega) (by omega) (by omega)
  have w5 := u.at y5 (by omega) (by omega) (by omega)
  have z0 := a0.1
  have z1 := a1.1
  have l2_ := a2.1
  have l3_ := a3.1
  have l4_ := a4.1
  have vs : vaP K s = K.2.2.2 (pPo s) := if_pos b3
  obtain ⟨et, e1⟩ := tkP_y (K := K) (s := s) ek (by omega)
  have l1_ := (rx.nx (by omega)).1
  have kv : K.2.1 (pPo s) = kdP K s := by
    have e2 : kdP K s = kdT K (pPo s) := if_neg e1
    rw [e2, rx.ne42.1]
  refine tX12_atom_0  (r := ?_)
  refine tX12_atom_1  (r := ?_)
  refine tX12_atom_3 (hd := (by omega)) (ha := (by first | assumption | (repeat (first | assumption | exact At.set_eq2 (by first | omega | (simp only [hset, hnew]; omega) | rfl | decide) | exact At.new_eq2 _ _ (by first | omega | (simp only [hset, hnew]; omega) | rfl | decide) | refine At.set_ne ?_ (by first | omega | (simp only [hset, hnew]; omega) | rfl | decide) | refine At.new_ne ?_)))) (call := s_mis (d := 2) rx (k := 40) (by decide)) (k := ?_)
  rintro x_ h_ ⟨hx_, e_⟩
  rw [e_, hx_, if_neg (by omega)]
  refine tX12_atom_6  (kf := fun c_ => by exfalso; exact c_ rfl) (kt := fun _ => ?_)
  refine tX12_atom_38  (r := ?_)
  refine tX12_atom_39  (r := ?_)
  refine tX12_atom_41 (hd := (by omega)) (ha := (by first | assumption | (repeat (first | assumption | exact At.set_eq2 (by first | omega | (simp only [hset, hnew]; omega) | rfl | decide) | exact At.new_eq2 _ _ (by first | omega | (simp only [hset, hnew]; omega) | rfl | decide) | refine At.set_ne ?_ (by first | omega | (simp only [hset, hnew]; omega) | rfl | decide) | refine At.new_ne ?_)))) (call := s_mis (d := 2) rx (k := 20) (by decide)) (k := ?_)
  rintro x_ h_ ⟨hx_, e_⟩
  rw [e_, hx_, if_neg (by omega)]
  refine tX12_atom_44  (kt := fun c_ => by exfalso; exact c_ rfl) (kf := fun _ => ?_)
  refine tX12_atom_47  (r := ?_)
  refine tX12_atom_48  (r := ?_)
  refine tX12_atom_50 (hd := (by omega)) (ha := (by first | assumption | (repeat (first | assumption | exact At.set_eq2 (by first | omega | (simp only [hset, hnew]; omega) | rfl | decide) | exact At.new_eq2 _ _ (by first | omega | (simp only [hset, hnew]; omega) | rfl | decide) | refine At.set_ne ?_ (by first | omega | (simp only [hset, hnew]; omega) | rfl | decide) | refine At.new_ne ?_)))) (call := s_mis (d := 2) rx (k := 22) (by decide)) (k := ?_)
  rintro x_ h_ ⟨hx_, e_⟩
  rw [e_, hx_, if_neg (by omega)]
  refine tX12_atom_53  (kt := fun c_ => by exfalso; exact c_ rfl) (kf := fun _ => ?_)
  refine tX12_atom_56  (r := ?_)
  refine tX12_atom_57  (r := ?_)
  refine tX12_atom_59 (hd := (by omega)) (ha := (by first | assumption | (repeat (first | assumption | exact At.set_eq2 (by first | omega | (simp only [hset, hnew]; omega) | rfl | decide) | exact At.new_eq2 _ _ (by first | omega | (simp only [hset, hnew]; omega) | rfl | decide) | refine At.set_ne ?_ (by first | omega | (simp only [hset, hnew]; omega) | rfl | decide) | refine At.new_ne ?_)))) (call := s_mis (d := 2) rx (k := 23) (by decide)) (k := ?_)
  rintro x_ h_ ⟨hx_, e_⟩
  rw [e_, hx_, if_neg (by omega)]
  refine tX12_atom_62  (kf := fun c_ => by exfalso; exact c_ rfl) (kt := fun _ => ?_)
  refine tX12_atom_93  (r := ?_)
  refine tX12_atom_94  (r := ?_)
  refine tX12_atom_96 (hd := (by omega)) (ha := (by first | assumption | (repeat (first | assumption | exact At.set_eq2 (by first | omega | (simp only [hset, hnew]; omega) | rfl | decide) | exact At.new_eq2 _ _ (by first | omega | (simp only [hset, hnew]; omega) | rfl | decide) | refine At.set_ne ?_ (by first | omega | (simp only [hset, hnew]; omega) | rfl | decide) | refine At.new_ne ?_)))) (call := s_mtakes (d := 2) (by omega) rx (k := 21) (by decide)) (k := ?_)
  rintro x_ h1 ⟨hx_, ty_, -⟩
  have rx1 := ty_ ek
  rw [hx_, if_pos ek]
  obtain ⟨⟨th1, by1, ea1, p1⟩, -⟩ := id rx1
  refine tX12_atom_99  (kt := fun c_ => by exfalso; exact absurd c_ (by decide)) (kf := fun _ => ?_)
  refine tX12_atom_102  (r := ?_)
  refine tX12_atom_103  (r := ?_)
  refine tX12_atom_105  (r := ?_)
  refine tX12_atom_106  (r := ?_)
  refine tX12_atom_107 (hd := (by omega)) (ha := (by first | assumption | (repeat (first | assumption | exact At.set_eq2 (by first | omega | (simp only [hset, hnew]; omega) | rfl | decide) | exact At.new_eq2 _ _ (by first | omega | (simp only [hset, hnew]; omega) | rfl | decide) | refine At.set_ne ?_ (by first | omega | (simp only [hset, hnew]; omega) | rfl | decide) | refine At.new_ne ?_)))) (call := s_mname (d := 4) (by omega) rx1 (w := 0) (Or.inl rfl)) (k := ?_)
  rintro v2 h2 ⟨hv2, rx2⟩
  have po2 : pPo s + 1 ≤ pPo (tkP K 39 (rpO (nbO K 0 (tkP K 21 s)) (tkP K 21 s))) := by
    have p9 := (tkP_po (K := K) (w := 39) (s := rpO (nbO K 0 (tkP K 21 s)) (tkP K 21 s))).1
    rw [rpO_po] at p9
    have p8 : pPo (tkP K 21 s) = pPo s + 1 := by rw [et]
    omega
  obtain ⟨⟨th2, by2, ea2, p2⟩, -⟩ := id rx2
  refine tX12_atom_110  (r := ?_)
  refine tX12_atom_111 (hd := (by omega)) (ha := (by first | assumption | (repeat (first | assumption | exact At.set_eq2 (by first | omega | (simp only [hset, hnew]; omega) | rfl | decide) | exact At.new_eq2 _ _ (by first | omega | (simp only [hset, hnew]; omega) | rfl | decide) | refine At.set_ne ?_ (by first | omega | (simp only [hset, hnew]; omega) | rfl | decide) | refine At.new_ne ?_)))) (call := s_mnode (d := 3) rx2 (by omega) (so := 21) (lN := (lbO K (tkP K 21 s)).getD 0) (rN := 0) (fun _ => rfl) hv2 (fun _ => rfl)) (k := ?_)
  rintro v3 h3 ⟨hv3, rx3⟩
  refine tX12_atom_114  (hP := ?_)
  have EQ : Eqv (noP 21 ((lbO K (tkP K 21 s)).getD 0) 0 (tkP K 39 (rpO (nbO K 0 (tkP K 21 s)) (tkP K 21 s)))) (lkP K 21 s).1 := Eqv.no (Eqv.tk (Eqv.st _).symm)
  refine ⟨_, rfl, _, rx3.eqv EQ, fun z => ?_, ?_⟩
  · have z2 := EQ.2.1.trans z
    rw [noP_er] at z2
    rw [hv3 z2]
    obtain ⟨z3, -, z5⟩ := tkP_er z2
    obtain ⟨-, z4⟩ := rpO_ne z3
    rw [z5, z4, et]
    rfl
  · rw [← EQ.1, noP_po]
    omega

set_option maxHeartbeats 4000000 in
set_option maxRecDepth 100000 in
theorem s_ma_2 (hd : 7 ≤ d) (rx : RxM h0 h m K T L s dp g no) (ek : kdP K s = 2) : RQ G mX12_atom d 0 [some (.ref m), none] [] h (Ri fun v h1 => ∃ n1, RxM h0 h1 m K T L (lkP K 2 s).1 dp g n1 ∧ (pEr (lkP K 2 s).1 = 0 → v = nI (lkP K 2 s).2) ∧ n1 + pPo s ≤ no + pPo (lkP K 2 s).1) := by
  obtain ⟨⟨th, by_, ea, a0⟩, a1, ⟨q2, a2, c2⟩, ⟨q3, a3, c3⟩, ⟨q4, a4, c4⟩, b1, b2, b3, b4, b5, b6, u, tk, nm⟩ := id rx
  obtain ⟨⟨v1, y1, x1⟩, ⟨v2, y2, x2⟩, ⟨v3, y3, x3⟩, ⟨v4, y4, x4⟩, ⟨v5, y5, x5⟩, tw⟩ := id tk
  have k401 := tw.2.1
  have w1 := u.at y1 (by omega) (by omega) (by omega)
  have w2 := u.at y2 (by omega) (by omega) (by omega)
  have w3 := u.at y3 (by omega) (by omega) (by omega)
  have w4 := u.at y4 (by omega) (by omega) (by omega)
  have w5 := u.at y5 (by omega) (by omega) (by omega)
  have z0 := a0.1
  have z1 := a1.1
  have l2_ := a2.1
  have l3_ := a3.1
  have l4_ := a4.1
  have vs : vaP K s = K.2.2.2 (pPo s) := if_pos b3
  obtain ⟨et, e1⟩ := tkP_y (K := K) (s := s) ek (by omega)
  have l1_ := (rx.nx (by omega)).1
  have kv : K.2.1 (pPo s) = kdP K s := by
    have e2 : kdP K s = kdT K (pPo s) := if_neg e1
    rw [e2, rx.ne42.1]
  refine tX12_atom_0  (r := ?_)
  refine tX12_atom_1  (r := ?_)
  refine tX12_atom_3 (hd := (by omega)) (ha := (by first | assumption | (repeat (first | assumption | exact At.set_eq2 (by first | omega | (simp only [hset, hnew]; omega) | rfl | decide) | exact At.new_eq2 _ _ (by first | omega | (simp only [hset, hnew]; omega) | rfl | decide) | refine At.set_ne ?_ (by first | omega | (simp only [hset, hnew]; omega) | rfl | decide) | refine At.new_ne ?_)))) (call := s_mis (d := 2) rx (k := 40) (by decide)) (k := ?_)
  rintro x_ h_ ⟨hx_, e_⟩
  rw [e_, hx_, if_neg (by omega)]
  refine tX12_atom_6  (kf := fun c_ => by exfalso; exact c_ rfl) (kt := fun _ => ?_)
  refine tX12_atom_38  (r := ?_)
  refine tX12_atom_39  (r := ?_)
  refine tX12_atom_41 (hd := (by omega)) (ha := (by first | assumption | (repeat (first | assumption | exact At.set_eq2 (by first | omega | (simp only [hset, hnew]; omega) | rfl | decide) | exact At.new_eq2 _ _ (by first | omega | (simp only [hset, hnew]; omega) | rfl | decide) | refine At.set_ne ?_ (by first | omega | (simp only [hset, hnew]; omega) | rfl | decide) | refine At.new_ne ?_)))) (call := s_mis (d := 2) rx (k := 20) (by decide)) (k := ?_)
  rintro x_ h_ ⟨hx_, e_⟩
  rw [e_, hx_, if_neg (by omega)]
  refine tX12_atom_44  (kt := fun c_ => by exfalso; exact c_ rfl) (kf := fun _ => ?_)
  refine tX12_atom_47  (r := ?_)
  refine tX12_atom_48  (r := ?_)
  refine tX12_atom_50 (hd := (by omega)) (ha := (by first | assumption | (repeat (first | assumption | exact At.set_eq2 (by first | omega | (simp only [hset, hnew]; omega) | rfl | decide) | exact At.new_eq2 _ _ (by first | omega | (simp only [hset, hnew]; omega) | rfl | decide) | refine At.set_ne ?_ (by first | omega | (simp only [hset, hnew]; omega) | rfl | decide) | refine At.new_ne ?_)))) (call := s_mis (d := 2) rx (k := 22) (by decide)) (k := ?_)
  rintro x_ h_ ⟨hx_, e_⟩
  rw [e_, hx_, if_neg (by omega)]
  refine tX12_atom_53  (kt := fun c_ => by exfalso; exact c_ rfl) (kf := fun _ => ?_)
  refine tX12_atom_56  (r := ?_)
  refine tX12_atom_57  (r := ?_)
  refine tX12_atom_59 (hd := (by omega)) (ha := (by first | assumption | (repeat (first | assumption | exact At.set_eq2 (by first | omega | (simp only [hset, hnew]; omega) | rfl | decide) | exact At.new_eq2 _ _ (by first | omega | (simp only [hset, hnew]; omega) | rfl | decide) | refine At.set_ne ?_ (by first | omega | (simp only [hset, hnew]; omega) | rfl | decide) | refine At.new_ne ?_)))) (call := s_mis (d := 2) rx (k := 23) (by decide)) (k := ?_)
  rintro x_ h_ ⟨hx_, e_⟩
  rw [e_, hx_, if_neg (by omega)]
  refine tX12_atom_62  (kf := fun c_ => by exfalso; exact c_ rfl) (kt := fun _ => ?_)
  refine tX12_atom_93  (r := ?_)
  refine tX12_atom_94  (r := ?_)
  refine tX12_atom_96 (hd := (by omega)) (ha := (by first | assumption | (repeat (first | assumption | exact At.set_eq2 (by first | omega | (simp only [hset, hnew]; omega) | rfl | decide) | exact At.new_eq2 _ _ (by first | omega | (simp only [hset, hnew]; omega) | rfl | decide) | refine At.set_ne ?_ (by first | omega | (simp only [hset, hnew]; omega) | rfl | decide) | refine At.new_ne ?_)))) (call := s_mtakes (d := 2) (by omega) rx (k := 21) (by decide)) (k := ?_)
  rintro x_ h_ ⟨hx_, -, tn_⟩
  have e_ := tn_ (by omega)
  rw [e_, hx_, if_neg (by omega)]
  refine tX12_atom_99  (kf := fun c_ => by exfalso; exact c_ rfl) (kt := fun _ => ?_)
  refine tX12_atom_115  (r := ?_)
  refine tX12_atom_116  (r := ?_)
  refine tX12_atom_117 (hd := (by omega)) (ha := (by first | assumption | (repeat (first | assumption | exact At.set_eq2 (by first | omega | (simp only [hset, hnew]; omega) | rfl | decide) | exact At.new_eq2 _ _ (by first | omega | (simp only [hset, hnew]; omega) | rfl | decide) | refine At.set_ne ?_ (by first | omega | (simp only [hset, hnew]; omega) | rfl | decide) | refine At.new_ne ?_)))) (call := s_mtakes (d := 2) (by omega) rx (k := 2) (by decide)) (k := ?_)
  rintro x_ h1 ⟨hx_, ty_, -⟩
  have rx1 := ty_ ek
  rw [hx_, if_pos ek]
  obtain ⟨⟨th1, by1, ea1, p1⟩, -⟩ := id rx1
  refine tX12_atom_120  (kt := fun c_ => by exfalso; exact absurd c_ (by decide)) (kf := fun _ => ?_)
  refine tX12_atom_123  (r := ?_)
  refine tX12_atom_124  (r := ?_)
  refine tX12_atom_125  (r := ?_)
  refine tX12_atom_126  (r := ?_)
  refine tX12_atom_127 (hd := (by omega)) (ha := (by first | assumption | (repeat (first | assumption | exact At.set_eq2 (by first | omega | (simp only [hset, hnew]; omega) | rfl | decide) | exact At.new_eq2 _ _ (by first | omega | (simp only [hset, hnew]; omega) | rfl | decide) | refine At.set_ne ?_ (by first | omega | (simp only [hset, hnew]; omega) | rfl | decide) | refine At.new_ne ?_)))) (call := s_mname (d := 4) (by omega) rx1 (w := 0) (Or.inl rfl)) (k := ?_)
  rintro v2 h2 ⟨hv2, rx2⟩
  have po2 : pPo s + 1 ≤ pPo (tkP K 39 (rpO (nbO K 0 (tkP K 2 s)) (tkP K 2 s))) := by
    have p9 := (tkP_po (K := K) (w := 39) (s := rpO (nbO K 0 (tkP K 2 s)) (tkP K 2 s))).1
    rw [rpO_po] at p9
    have p8 : pPo (tkP K 2 s) = pPo s + 1 := by rw [et]
    omega
  obtain ⟨⟨th2, by2, ea2, p2⟩, -⟩ := id rx2
  refine tX12_atom_130  (r := ?_)
  refine tX12_atom_131 (hd := (by omega)) (ha := (by first | assumption | (repeat (first | assumption | exact At.set_eq2 (by first | omega | (simp only [hset, hnew]; omega) | rfl | decide) | exact At.new_eq2 _ _ (by first | omega | (simp only [hset, hnew]; omega) | rfl | decide) | refine At.set_ne ?_ (by first | omega | (simp only [hset, hnew]; omega) | rfl | decide) | refine At.new_ne ?_)))) (call := s_mnode (d := 3) rx2 (by omega) (so := 2) (lN := (lbO K (tkP K 2 s)).getD 0) (rN := 0) (fun _ => rfl) hv2 (fun _ => rfl)) (k := ?_)
  rintro v3 h3 ⟨hv3, rx3⟩
  refine tX12_atom_134  (hP := ?_)
  have EQ : Eqv (noP 2 ((lbO K (tkP K 2 s)).getD 0) 0 (tkP K 39 (rpO (nbO K 0 (tkP K 2 s)) (tkP K 2 s)))) (lkP K 2 s).1 := Eqv.no (Eqv.tk (Eqv.st _).symm)
  refine ⟨_, rfl, _, rx3.eqv EQ, fun z => ?_, ?_⟩
  · have z2 := EQ.2.1.trans z
    rw [noP_er] at z2
    rw [hv3 z2]
    obtain ⟨z3, -, z5⟩ := tkP_er z2
    obtain ⟨-, z4⟩ := rpO_ne z3
    rw [z5, z4, et]
    rfl
  · rw [← EQ.1, noP_po]
    omega

theorem wrP_tk {k : Nat} {s s' : PST} (e : Eqv s s') (h : kdP K s ≠ k) : Eqv (wrP s) (tkP K k s') := by
  rw [tkP_wr (by rw [← e.kd]; exact h)]
  exact Eqv.wr e.1 e.2.1 e.2.2.1
theorem Eqv.now {so l r : Nat} {s s' : PST} (e : Eqv s s') (h : pEr s = 1) : Eqv s (noP so l r s') := by
  have z : ¬ pEr s' = 0 := by
    rw [← e.2.1, h]
    decide
  unfold noP
  rw [upP_n z]
  exact e

set_option maxHeartbeats 4000000 in
set_option maxRecDepth 100000 in
theorem s_ma_wr (hd : 7 ≤ d) (rx : RxM h0 h m K T L s dp g no) (ek : ¬ kdP K s = 40 ∧ ¬ kdP K s = 20 ∧ ¬ kdP K s = 22 ∧ ¬ kdP K s = 23 ∧ ¬ kdP K s = 21 ∧ ¬ kdP K s = 2 ∧ ¬ kdP K s = 27) : RQ G mX12_atom d 0 [some (.ref m), none] [] h (Ri fun v h1 => ∃ n1, RxM h0 h1 m K T L (noP 31 (vaP K s) 0 (tkP K 40 (stP 40 (vaP K s) s)), nNo (pBk s)).1 dp g n1 ∧ (pEr (noP 31 (vaP K s) 0 (tkP K 40 (stP 40 (vaP K s) s)), nNo (pBk s)).1 = 0 → v = nI (noP 31 (vaP K s) 0 (tkP K 40 (stP 40 (vaP K s) s)), nNo (pBk s)).2) ∧ n1 + pPo s ≤ no + pPo (noP 31 (vaP K s) 0 (tkP K 40 (stP 40 (vaP K s) s)), nNo (pBk s)).1) := by
  obtain ⟨⟨th, by_, ea, a0⟩, a1, ⟨q2, a2, c2⟩, ⟨q3, a3, c3⟩, ⟨q4, a4, c4⟩, b1, b2, b3, b4, b5, b6, u, tk, nm⟩ := id rx
  obtain ⟨⟨v1, y1, x1⟩, ⟨v2, y2, x2⟩, ⟨v3, y3, x3⟩, ⟨v4, y4, x4⟩, ⟨v5, y5, x5⟩, tw⟩ := id tk
  have k401 := tw.2.1
  have w1 := u.at y1 (by omega) (by omega) (by omega)
  have w2 := u.at y2 (by omega) (by omega) (by omega)
  have w3 := u.at y3 (by omega) (by omega) (by omega)
  have w4 := u.at y4 (by omega) (by omega) (by omega)
  have w5 := u.at y5 (by omega) (by omega) (by omega)
  have z0 := a0.1
  have z1 := a1.1
  have l2_ := a2.1
  have l3_ := a3.1
  have l4_ := a4.1
  refine tX12_atom_0  (r := ?_)
  refine tX12_atom_1  (r := ?_)
  refine tX12_atom_3 (hd := (by omega)) (ha := (by first | assumption | (repeat (first | assumption | exact At.set_eq2 (by first | omega | (simp only [hset, hnew]; omega) | rfl | decide) | exact At.new_eq2 _ _ (by first | omega | (simp only [hset, hnew]; omega) | rfl | decide) | refine At.set_ne ?_ (by first | omega | (simp only [hset, hnew]; omega) | rfl | decide) | refine At.new_ne ?_)))) (call := s_mis (d := 2) rx (k := 40) (by decide)) (k := ?_)
  rintro x_ h_ ⟨hx_, e_⟩
  rw [e_, hx_, if_neg (by omega)]
  refine tX12_atom_6  (kf := fun c_ => by exfalso; exact c_ rfl) (kt := fun _ => ?_)
  refine tX12_atom_38  (r := ?_)
  refine tX12_atom_39  (r := ?_)
  refine tX12_atom_41 (hd := (by omega)) (ha := (by first | assumption | (repeat (first | assumption | exact At.set_eq2 (by first | omega | (simp only [hset, hnew]; omega) | rfl | decide) | exact At.new_eq2 _ _ (by first | omega | (simp only [hset, hnew]; omega) | rfl | decide) | refine At.set_ne ?_ (by first | omega | (simp only [hset, hnew]; omega) | rfl | decide) | refine At.new_ne ?_)))) (call := s_mis (d := 2) rx (k := 20) (by decide)) (k := ?_)
  rintro x_ h_ ⟨hx_, e_⟩
  rw [e_, hx_, if_neg (by omega)]
  refine tX12_atom_44  (kt := fun c_ => by exfalso; exact c_ rfl) (kf := fun _ => ?_)
  refine tX12_atom_47  (r := ?_)
  refine tX12_atom_48  (r := ?_)
  refine tX12_atom_50 (hd := (by omega)) (ha := (by first | assumption | (repeat (first | assumption | exact At.set_eq2 (by first | omega | (simp only [hset, hnew]; omega) | rfl | decide) | exact At.new_eq2 _ _ (by first | omega | (simp only [hset, hnew]; omega) | rfl | decide) | refine At.set_ne ?_ (by first | omega | (simp only [hset, hnew]; omega) | rfl | decide) | refine At.new_ne ?_)))) (call := s_mis (d := 2) rx (k := 22) (by decide)) (k := ?_)
  rintro x_ h_ ⟨hx_, e_⟩
  rw [e_, hx_, if_neg (by omega)]
  refine tX12_atom_53  (kt := fun c_ => by exfalso; exact c_ rfl) (kf := fun _ => ?_)
  refine tX12_atom_56  (r := ?_)
  refine tX12_atom_57  (r := ?_)
  refine tX12_atom_59 (hd := (by omega)) (ha := (by first | assumption | (repeat (first | assumption | exact At.set_eq2 (by first | omega | (simp only [hset, hnew]; omega) | rfl | decide) | exact At.new_eq2 _ _ (by first | omega | (simp only [hset, hnew]; omega) | rfl | decide) | refine At.set_ne ?_ (by first | omega | (simp only [hset, hnew]; omega) | rfl | decide) | refine At.new_ne ?_)))) (call := s_mis (d := 2) rx (k := 23) (by decide)) (k := ?_)
  rintro x_ h_ ⟨hx_, e_⟩
  rw [e_, hx_, if_neg (by omega)]
  refine tX12_atom_62  (kf := fun c_ => by exfalso; exact c_ rfl) (kt := fun _ => ?_)
  refine tX12_atom_93  (r := ?_)
  refine tX12_atom_94  (r := ?_)
  refine tX12_atom_96 (hd := (by omega)) (ha := (by first | assumption | (repeat (first | assumption | exact At.set_eq2 (by first | omega | (simp only [hset, hnew]; omega) | rfl | decide) | exact At.new_eq2 _ _ (by first | omega | (simp only [hset, hnew]; omega) | rfl | decide) | refine At.set_ne ?_ (by first | omega | (simp only [hset, hnew]; omega) | rfl | decide) | refine At.new_ne ?_)))) (call := s_mtakes (d := 2) (by omega) rx (k := 21) (by decide)) (k := ?_)
  rintro x_ h_ ⟨hx_, -, tn_⟩
  have e_ := tn_ (by omega)
  rw [e_, hx_, if_neg (by omega)]
  refine tX12_atom_99  (kf := fun c_ => by exfalso; exact c_ rfl) (kt := fun _ => ?_)
  refine tX12_atom_115  (r := ?_)
  refine tX12_atom_116  (r := ?_)
  refine tX12_atom_117 (hd := (by omega)) (ha := (by first | assumption | (repeat (first | assumption | exact At.set_eq2 (by first | omega | (simp only [hset, hnew]; omega) | rfl | decide) | exact At.new_eq2 _ _ (by first | omega | (simp only [hset, hnew]; omega) | rfl | decide) | refine At.set_ne ?_ (by first | omega | (simp only [hset, hnew]; omega) | rfl | decide) | refine At.new_ne ?_)))) (call := s_mtakes (d := 2) (by omega) rx (k := 2) (by decide)) (k := ?_)
  rintro x_ h_ ⟨hx_, -, tn_⟩
  have e_ := tn_ (by omega)
  rw [e_, hx_, if_neg (by omega)]
  refine tX12_atom_120  (kf := fun c_ => by exfalso; exact c_ rfl) (kt := fun _ => ?_)
  refine tX12_atom_135  (r := ?_)
  refine tX12_atom_136  (r := ?_)
  refine tX12_atom_138 (hd := (by omega)) (ha := (by first | assumption | (repeat (first | assumption | exact At.set_eq2 (by first | omega | (simp only [hset, hnew]; omega) | rfl | decide) | exact At.new_eq2 _ _ (by first | omega | (simp only [hset, hnew]; omega) | rfl | decide) | refine At.set_ne ?_ (by first | omega | (simp only [hset, hnew]; omega) | rfl | decide) | refine At.new_ne ?_)))) (call := s_mis (d := 2) rx (k := 27) (by decide)) (k := ?_)
  rintro x_ h_ ⟨hx_, e_⟩
  rw [e_, hx_, if_neg (by omega)]
  refine tX12_atom_141  (kt := fun c_ => by exfalso; exact c_ rfl) (kf := fun _ => ?_)
  refine tX12_atom_144  (r := ?_)
  refine tX12_atom_145 (hd := (by omega)) (ha := (by first | assumption | (repeat (first | assumption | exact At.set_eq2 (by first | omega | (simp only [hset, hnew]; omega) | rfl | decide) | exact At.new_eq2 _ _ (by first | omega | (simp only [hset, hnew]; omega) | rfl | decide) | refine At.set_ne ?_ (by first | omega | (simp only [hset, hnew]; omega) | rfl | decide) | refine At.new_ne ?_)))) (call := s_mwrong (d := 6) rx) (k := ?_)
  intro h1 rx1
  refine tX12_atom_148  (r := ?_)
  refine tX12_atom_149  (hP := ?_)
  have EQ : Eqv (wrP s) (noP 31 (vaP K s) 0 (tkP K 40 (stP 40 (vaP K s) s)), nNo (pBk s)).1 := by
    exact Eqv.now (wrP_tk (Eqv.st _).symm ek.1) (wrP_er s)
  refine ⟨_, rfl, _, rx1.eqv EQ, fun z => ?_, ?_⟩
  · rw [← EQ.2.1, wrP_er] at z
    exact absurd z (by decide)
  · rw [← EQ.1]
    have : pPo (wrP s) = pPo s := by
      unfold wrP
      split <;> rfl
    omega

set_option maxHeartbeats 4000000 in
set_option maxRecDepth 100000 in
theorem s_ma_deep (hd : 7 ≤ d) (rx : RxM h0 h m K T L s dp g no) (ek : kdP K s = 27) (e6 : dp = 6) : RQ G mX12_atom d 0 [some (.ref m), none] [] h (Ri fun v h1 => ∃ n1, RxM h0 h1 m K T L (noP 31 (vaP K s) 0 (tkP K 40 (stP 40 (vaP K s) s)), nNo (pBk s)).1 dp g n1 ∧ (pEr (noP 31 (vaP K s) 0 (tkP K 40 (stP 40 (vaP K s) s)), nNo (pBk s)).1 = 0 → v = nI (noP 31 (vaP K s) 0 (tkP K 40 (stP 40 (vaP K s) s)), nNo (pBk s)).2) ∧ n1 + pPo s ≤ no + pPo (noP 31 (vaP K s) 0 (tkP K 40 (stP 40 (vaP K s) s)), nNo (pBk s)).1) := by
  obtain ⟨⟨th, by_, ea, a0⟩, a1, ⟨q2, a2, c2⟩, ⟨q3, a3, c3⟩, ⟨q4, a4, c4⟩, b1, b2, b3, b4, b5, b6, u, tk, nm⟩ := id rx
  obtain ⟨⟨v1, y1, x1⟩, ⟨v2, y2, x2⟩, ⟨v3, y3, x3⟩, ⟨v4, y4, x4⟩, ⟨v5, y5, x5⟩, tw⟩ := id tk
  have k401 := tw.2.1
  have w1 := u.at y1 (by omega) (by omega) (by omega)
  have w2 := u.at y2 (by omega) (by omega) (by omega)
  have w3 := u.at y3 (by omega) (by omega) (by omega)
  have w4 := u.at y4 (by omega) (by omega) (by omega)
  have w5 := u.at y5 (by omega) (by omega) (by omega)
  have z0 := a0.1
  have z1 := a1.1
  have l2_ := a2.1
  have l3_ := a3.1
  have l4_ := a4.1
  refine tX12_atom_0  (r := ?_)
  refine tX12_atom_1  (r := ?_)
  refine tX12_atom_3 (hd := (by omega)) (ha := (by first | assumption | (repeat (first | assumption | exact At.set_eq2 (by first | omega | (simp only [hset, hnew]; omega) | rfl | decide) | exact At.new_eq2 _ _ (by first | omega | (simp only [hset, hnew]; omega) | rfl | decide) | refine At.set_ne ?_ (by first | omega | (simp only [hset, hnew]; omega) | rfl | decide) | refine At.new_ne ?_)))) (call := s_mis (d := 2) rx (k := 40) (by decide)) (k := ?_)
  rintro x_ h_ ⟨hx_, e_⟩
  rw [e_, hx_, if_neg (by omega)]
  refine tX12_atom_6  (kf := fun c_ => by exfalso; exact c_ rfl) (kt := fun _ => ?_)
  refine tX12_atom_38  (r := ?_)
  refine tX12_atom_39  (r := ?_)
  refine tX12_atom_41 (hd := (by omega)) (ha := (by first | assumption | (repeat (first | assumption | exact At.set_eq2 (by first | omega | (simp only [hset, hnew]; omega) | rfl | decide) | exact At.new_eq2 _ _ (by first | omega | (simp only [hset, hnew]; omega) | rfl | decide) | refine At.set_ne ?_ (by first | omega | (simp only [hset, hnew]; omega) | rfl | decide) | refine At.new_ne ?_)))) (call := s_mis (d := 2) rx (k := 20) (by decide)) (k := ?_)
  rintro x_ h_ ⟨hx_, e_⟩
  rw [e_, hx_, if_neg (by omega)]
  refine tX12_atom_44  (kt := fun c_ => by exfalso; exact c_ rfl) (kf := fun _ => ?_)
  refine tX12_atom_47  (r := ?_)
  refine tX12_atom_48  (r := ?_)
  refine tX12_atom_50 (hd := (by omega)) (ha := (by first | assumption | (repeat (first | assumption | exact At.set_eq2 (by first | omega | (simp only [hset, hnew]; omega) | rfl | decide) | exact At.new_eq2 _ _ (by first | omega | (simp only [hset, hnew]; omega) | rfl | decide) | refine At.set_ne ?_ (by first | omega | (simp only [hset, hnew]; omega) | rfl | decide) | refine At.new_ne ?_)))) (call := s_mis (d := 2) rx (k := 22) (by decide)) (k := ?_)
  rintro x_ h_ ⟨hx_, e_⟩
  rw [e_, hx_, if_neg (by omega)]
  refine tX12_atom_53  (kt := fun c_ => by exfalso; exact c_ rfl) (kf := fun _ => ?_)
  refine tX12_atom_56  (r := ?_)
  refine tX12_atom_57  (r := ?_)
  refine tX12_atom_59 (hd := (by omega)) (ha := (by first | assumption | (repeat (first | assumption | exact At.set_eq2 (by first | omega | (simp only [hset, hnew]; omega) | rfl | decide) | exact At.new_eq2 _ _ (by first | omega | (simp only [hset, hnew]; omega) | rfl | decide) | refine At.set_ne ?_ (by first | omega | (simp only [hset, hnew]; omega) | rfl | decide) | refine At.new_ne ?_)))) (call := s_mis (d := 2) rx (k := 23) (by decide)) (k := ?_)
  rintro x_ h_ ⟨hx_, e_⟩
  rw [e_, hx_, if_neg (by omega)]
  refine tX12_atom_62  (kf := fun c_ => by exfalso; exact c_ rfl) (kt := fun _ => ?_)
  refine tX12_atom_93  (r := ?_)
  refine tX12_atom_94  (r := ?_)
  refine tX12_atom_96 (hd := (by omega)) (ha := (by first | assumption | (repeat (first | assumption | exact At.set_eq2 (by first | omega | (simp only [hset, hnew]; omega) | rfl | decide) | exact At.new_eq2 _ _ (by first | omega | (simp only [hset, hnew]; omega) | rfl | decide) | refine At.set_ne ?_ (by first | omega | (simp only [hset, hnew]; omega) | rfl | decide) | refine At.new_ne ?_)))) (call := s_mtakes (d := 2) (by omega) rx (k := 21) (by decide)) (k := ?_)
  rintro x_ h_ ⟨hx_, -, tn_⟩
  have e_ := tn_ (by omega)
  rw [e_, hx_, if_neg (by omega)]
  refine tX12_atom_99  (kf := fun c_ => by exfalso; exact c_ rfl) (kt := fun _ => ?_)
  refine tX12_atom_115  (r := ?_)
  refine tX12_atom_116  (r := ?_)
  refine tX12_atom_117 (hd := (by omega)) (ha := (by first | assumption | (repeat (first | assumption | exact At.set_eq2 (by first | omega | (simp only [hset, hnew]; omega) | rfl | decide) | exact At.new_eq2 _ _ (by first | omega | (simp only [hset, hnew]; omega) | rfl | decide) | refine At.set_ne ?_ (by first | omega | (simp only [hset, hnew]; omega) | rfl | decide) | refine At.new_ne ?_)))) (call := s_mtakes (d := 2) (by omega) rx (k := 2) (by decide)) (k := ?_)
  rintro x_ h_ ⟨hx_, -, tn_⟩
  have e_ := tn_ (by omega)
  rw [e_, hx_, if_neg (by omega)]
  refine tX12_atom_120  (kf := fun c_ => by exfalso; exact c_ rfl) (kt := fun _ => ?_)
  refine tX12_atom_135  (r := ?_)
  refine tX12_atom_136  (r := ?_)
  refine tX12_atom_138 (hd := (by omega)) (ha := (by first | assumption | (repeat (first | assumption | exact At.set_eq2 (by first | omega | (simp only [hset, hnew]; omega) | rfl | decide) | exact At.new_eq2 _ _ (by first | omega | (simp only [hset, hnew]; omega) | rfl | decide) | refine At.set_ne ?_ (by first | omega | (simp only [hset, hnew]; omega) | rfl | decide) | refine At.new_ne ?_)))) (call := s_mis (d := 2) rx (k := 27) (by decide)) (k := ?_)
  rintro x_ h_ ⟨hx_, e_⟩
  rw [e_, hx_, if_pos ek]
  refine tX12_atom_141  (kf := fun c_ => by exfalso; exact absurd c_ (by decide)) (kt := fun _ => ?_)
  refine tX12_atom_150  (r := ?_)
  refine tX12_atom_151 (hd := (by omega)) (ha := (by first | assumption | (repeat (first | assumption | exact At.set_eq2 (by first | omega | (simp only [hset, hnew]; omega) | rfl | decide) | exact At.new_eq2 _ _ (by first | omega | (simp only [hset, hnew]; omega) | rfl | decide) | refine At.set_ne ?_ (by first | omega | (simp only [hset, hnew]; omega) | rfl | decide) | refine At.new_ne ?_)))) (call := s_mdeeper (d := 6) (by decide) rx (by omega)) (k := ?_)
  intro h1 hq
  have rx1_ := hq.1 e6
  obtain ⟨⟨th1, by1, ea1, p1⟩, -⟩ := id rx1_
  refine tX12_atom_154  (r := ?_)
  refine tX12_atom_155 (hd := (by omega)) (ha := (by first | assumption | (repeat (first | assumption | exact At.set_eq2 (by first | omega | (simp only [hset, hnew]; omega) | rfl | decide) | exact At.new_eq2 _ _ (by first | omega | (simp only [hset, hnew]; omega) | rfl | decide) | refine At.set_ne ?_ (by first | omega | (simp only [hset, hnew]; omega) | rfl | decide) | refine At.new_ne ?_)))) (call := s_mw_value (d := 6) (by decide) rx1_ (wrP_er s)) (k := ?_)
  rintro v2 h2 rfl
  refine tX12_atom_158  (r := ?_)
  refine tX12_atom_159  (r := ?_)
  refine tX12_atom_160  (r := ?_)
  refine tX12_atom_162 (hd := (by omega)) (ha := (by first | assumption | (repeat (first | assumption | exact At.set_eq2 (by first | omega | (simp only [hset, hnew]; omega) | rfl | decide) | exact At.new_eq2 _ _ (by first | omega | (simp only [hset, hnew]; omega) | rfl | decide) | refine At.set_ne ?_ (by first | omega | (simp only [hset, hnew]; omega) | rfl | decide) | refine At.new_ne ?_)))) (call := s_mhigher (d := 6) (by decide) rx1_ (k := 28) (by decide)) (k := ?_)
  intro h3 rx1
  rw [tkP_1 (wrP_er s)] at rx1
  refine tX12_atom_165  (r := ?_)
  refine tX12_atom_166  (hP := ?_)
  have EQ : Eqv (wrP s) (noP 31 (vaP K s) 0 (tkP K 40 (stP 40 (vaP K s) s)), nNo (pBk s)).1 := by
    exact Eqv.now (wrP_tk (Eqv.st _).symm (by omega)) (wrP_er s)
  refine ⟨_, rfl, _, rx1.eqv EQ, fun z => ?_, ?_⟩
  · rw [← EQ.2.1, wrP_er] at z
    exact absurd z (by decide)
  · rw [← EQ.1]
    have : pPo (wrP s) = pPo s := by
      unfold wrP
      split <;> rfl
    omega

set_option maxHeartbeats 4000000 in
set_option maxRecDepth 100000 in
theorem s_ma_open (hd : 7 ≤ d) (rx : RxM h0 h m K T L s dp g no) (ek : kdP K s = 27) (e6 : dp < 6) {d2 : Nat} {f : PST → PST × Nat} (hf : ExM G mX12_value d2 [some (.ref m), none, none] h0 m K T L (dp + 1) g f) (hd2 : d2 + 1 ≤ d) : RQ G mX12_atom d 0 [some (.ref m), none] [] h (Ri fun v h1 => ∃ n1, RxM h0 h1 m K T L (tkP K 28 (f (tkP K 27 s)).1, (f (tkP K 27 s)).2).1 dp g n1 ∧ (pEr (tkP K 28 (f (tkP K 27 s)).1, (f (tkP K 27 s)).2).1 = 0 → v = nI (tkP K 28 (f (tkP K 27 s)).1, (f (tkP K 27 s)).2).2) ∧ n1 + pPo s ≤ no + pPo (tkP K 28 (f (tkP K 27 s)).1, (f (tkP K 27 s)).2).1) := by
  obtain ⟨⟨th, by_, ea, a0⟩, a1, ⟨q2, a2, c2⟩, ⟨q3, a3, c3⟩, ⟨q4, a4, c4⟩, b1, b2, b3, b4, b5, b6, u, tk, nm⟩ := id rx
  obtain ⟨⟨v1, y1, x1⟩, ⟨v2, y2, x2⟩, ⟨v3, y3, x3⟩, ⟨v4, y4, x4⟩, ⟨v5, y5, x5⟩, tw⟩ := id tk
  have k401 := tw.2.1
  have w1 := u.at y1 (by omega) (by omega) (by omega)
  have w2 := u.at y2 (by omega) (by omega) (by omega)
  have w3 := u.at y3 (by omega) (by omega) (by omega)
  have w4 := u.at y4 (by omega) (by omega) (by omega)
  have w5 := u.at y5 (by omega) (by omega) (by omega)
  have z0 := a0.1
  have z1 := a1.1
  have l2_ := a2.1
  have l3_ := a3.1
  have l4_ := a4.1
  have vs : vaP K s = K.2.2.2 (pPo s) := if_pos b3
  obtain ⟨et, e1⟩ := tkP_y (K := K) (s := s) ek (by omega)
  have l1_ := (rx.nx (by omega)).1
  have kv : K.2.1 (pPo s) = kdP K s := by
    have e2 : kdP K s = kdT K (pPo s) := if_neg e1
    rw [e2, rx.ne42.1]
  refine tX12_atom_0  (r := ?_)
  refine tX12_atom_1  (r := ?_)
  refine tX12_atom_3 (hd := (by omega)) (ha := (by first | assumption | (repeat (first | assumption | exact At.set_eq2 (by first | omega | (simp only [hset, hnew]; omega) | rfl | decide) | exact At.new_eq2 _ _ (by first | omega | (simp only [hset, hnew]; omega) | rfl | decide) | refine At.set_ne ?_ (by first | omega | (simp only [hset, hnew]; omega) | rfl | decide) | refine At.new_ne ?_)))) (call := s_mis (d := 2) rx (k := 40) (by decide)) (k := ?_)
  rintro x_ h_ ⟨hx_, e_⟩
  rw [e_, hx_, if_neg (by omega)]
  refine tX12_atom_6  (kf := fun c_ => by exfalso; exact c_ rfl) (kt := fun _ => ?_)
  refine tX12_atom_38  (r := ?_)
  refine tX12_atom_39  (r := ?_)
  refine tX12_atom_41 (hd := (by omega)) (ha := (by first | assumption | (repeat (first | assumption | exact At.set_eq2 (by first | omega | (simp only [hset, hnew]; omega) | rfl | decide) | exact At.new_eq2 _ _ (by first | omega | (simp only [hset, hnew]; omega) | rfl | decide) | refine At.set_ne ?_ (by first | omega | (simp only [hset, hnew]; omega) | rfl | decide) | refine At.new_ne ?_)))) (call := s_mis (d := 2) rx (k := 20) (by decide)) (k := ?_)
  rintro x_ h_ ⟨hx_, e_⟩
  rw [e_, hx_, if_neg (by omega)]
  refine tX12_atom_44  (kt := fun c_ => by exfalso; exact c_ rfl) (kf := fun _ => ?_)
  refine tX12_atom_47  (r := ?_)
  refine tX12_atom_48  (r := ?_)
  refine tX12_atom_50 (hd := (by omega)) (ha := (by first | assumption | (repeat (first | assumption | exact At.set_eq2 (by first | omega | (simp only [hset, hnew]; omega) | rfl | decide) | exact At.new_eq2 _ _ (by first | omega | (simp only [hset, hnew]; omega) | rfl | decide) | refine At.set_ne ?_ (by first | omega | (simp only [hset, hnew]; omega) | rfl | decide) | refine At.new_ne ?_)))) (call := s_mis (d := 2) rx (k := 22) (by decide)) (k := ?_)
  rintro x_ h_ ⟨hx_, e_⟩
  rw [e_, hx_, if_neg (by omega)]
  refine tX12_atom_53  (kt := fun c_ => by exfalso; exact c_ rfl) (kf := fun _ => ?_)
  refine tX12_atom_56  (r := ?_)
  refine tX12_atom_57  (r := ?_)
  refine tX12_atom_59 (hd := (by omega)) (ha := (by first | assumption | (repeat (first | assumption | exact At.set_eq2 (by first | omega | (simp only [hset, hnew]; omega) | rfl | decide) | exact At.new_eq2 _ _ (by first | omega | (simp only [hset, hnew]; omega) | rfl | decide) | refine At.set_ne ?_ (by first | omega | (simp only [hset, hnew]; omega) | rfl | decide) | refine At.new_ne ?_)))) (call := s_mis (d := 2) rx (k := 23) (by decide)) (k := ?_)
  rintro x_ h_ ⟨hx_, e_⟩
  rw [e_, hx_, if_neg (by omega)]
  refine tX12_atom_62  (kf := fun c_ => by exfalso; exact c_ rfl) (kt := fun _ => ?_)
  refine tX12_atom_93  (r := ?_)
  refine tX12_atom_94  (r := ?_)
  refine tX12_atom_96 (hd := (by omega)) (ha := (by first | assumption | (repeat (first | assumption | exact At.set_eq2 (by first | omega | (simp only [hset, hnew]; omega) | rfl | decide) | exact At.new_eq2 _ _ (by first | omega | (simp only [hset, hnew]; omega) | rfl | decide) | refine At.set_ne ?_ (by first | omega | (simp only [hset, hnew]; omega) | rfl | decide) | refine At.new_ne ?_)))) (call := s_mtakes (d := 2) (by omega) rx (k := 21) (by decide)) (k := ?_)
  rintro x_ h_ ⟨hx_, -, tn_⟩
  have e_ := tn_ (by omega)
  rw [e_, hx_, if_neg (by omega)]
  refine tX12_atom_99  (kf := fun c_ => by exfalso; exact c_ rfl) (kt := fun _ => ?_)
  refine tX12_atom_115  (r := ?_)
  refine tX12_atom_116  (r := ?_)
  refine tX12_atom_117 (hd := (by omega)) (ha := (by first | assumption | (repeat (first | assumption | exact At.set_eq2 (by first | omega | (simp only [hset, hnew]; omega) | rfl | decide) | exact At.new_eq2 _ _ (by first | omega | (simp only [hset, hnew]; omega) | rfl | decide) | refine At.set_ne ?_ (by first | omega | (simp only [hset, hnew]; omega) | rfl | decide) | refine At.new_ne ?_)))) (call := s_mtakes (d := 2) (by omega) rx (k := 2) (by decide)) (k := ?_)
  rintro x_ h_ ⟨hx_, -, tn_⟩
  have e_ := tn_ (by omega)
  rw [e_, hx_, if_neg (by omega)]
  refine tX12_atom_120  (kf := fun c_ => by exfalso; exact c_ rfl) (kt := fun _ => ?_)
  refine tX12_atom_135  (r := ?_)
  refine tX12_atom_136  (r := ?_)
  refine tX12_atom_138 (hd := (by omega)) (ha := (by first | assumption | (repeat (first | assumption | exact At.set_eq2 (by first | omega | (simp only [hset, hnew]; omega) | rfl | decide) | exact At.new_eq2 _ _ (by first | omega | (simp only [hset, hnew]; omega) | rfl | decide) | refine At.set_ne ?_ (by first | omega | (simp only [hset, hnew]; omega) | rfl | decide) | refine At.new_ne ?_)))) (call := s_mis (d := 2) rx (k := 27) (by decide)) (k := ?_)
  rintro x_ h_ ⟨hx_, e_⟩
  rw [e_, hx_, if_pos ek]
  refine tX12_atom_141  (kf := fun c_ => by exfalso; exact absurd c_ (by decide)) (kt := fun _ => ?_)
  refine tX12_atom_150  (r := ?_)
  refine tX12_atom_151 (hd := (by omega)) (ha := (by first | assumption | (repeat (first | assumption | exact At.set_eq2 (by first | omega | (simp only [hset, hnew]; omega) | rfl | decide) | exact At.new_eq2 _ _ (by first | omega | (simp only [hset, hnew]; omega) | rfl | decide) | refine At.set_ne ?_ (by first | omega | (simp only [hset, hnew]; omega) | rfl | decide) | refine At.new_ne ?_)))) (call := s_mdeeper (d := 6) (by decide) rx (by omega)) (k := ?_)
  intro h1 hq
  have rx1 := hq.2 (by omega) (by omega)
  obtain ⟨⟨th1, by1, ea1, p1⟩, -⟩ := id rx1
  refine tX12_atom_154  (r := ?_)
  refine tX12_atom_155 (hd := (by omega)) (ha := (by first | assumption | (repeat (first | assumption | exact At.set_eq2 (by first | omega | (simp only [hset, hnew]; omega) | rfl | decide) | exact At.new_eq2 _ _ (by first | omega | (simp only [hset, hnew]; omega) | rfl | decide) | refine At.set_ne ?_ (by first | omega | (simp only [hset, hnew]; omega) | rfl | decide) | refine At.new_ne ?_)))) (call := hf _ _ _ rx1) (k := ?_)
  rintro v2 h2 ⟨n2, rx2, hv2, hb2⟩
  obtain ⟨⟨th2, by2, ea2, p2⟩, -⟩ := id rx2
  refine tX12_atom_158  (r := ?_)
  refine tX12_atom_159  (r := ?_)
  refine tX12_atom_160  (r := ?_)
  refine tX12_atom_162 (hd := (by omega)) (ha := (by first | assumption | (repeat (first | assumption | exact At.set_eq2 (by first | omega | (simp only [hset, hnew]; omega) | rfl | decide) | exact At.new_eq2 _ _ (by first | omega | (simp only [hset, hnew]; omega) | rfl | decide) | refine At.set_ne ?_ (by first | omega | (simp only [hset, hnew]; omega) | rfl | decide) | refine At.new_ne ?_)))) (call := s_mhigher (d := 6) (by decide) rx2 (k := 28) (by decide)) (k := ?_)
  intro h3 rx3
  rw [← et] at rx3 hv2
  refine tX12_atom_165  (r := ?_)
  refine tX12_atom_166  (hP := ?_)
  have p1_ := (tkP_po (K := K) (w := 28) (s := (f (tkP K 27 s)).1)).1
  refine ⟨_, rfl, _, rx3, fun z => hv2 ?_, ?_⟩
  · exact (tkP_er z).1
  · show n2 + pPo s ≤ no + pPo (tkP K 28 (f (tkP K 27 s)).1)
    have hb3 : n2 + (pPo s + 1) ≤ no + pPo (f (tkP K 27 s)).1 := by
      rw [et]
      exact hb2
    omega

theorem s_matom {d2 : Nat} {sub : Option (PST → PST × Nat)} (hsub : ∀ f, sub = some f → dp < 6 ∧ ExM G mX12_value d2 [some (.ref m), none, none] h0 m K T L (dp + 1) g f) (hno : sub = none → dp = 6) (hd2 : d2 + 1 ≤ d) (hd : 7 ≤ d) : ExM G mX12_atom d [some (.ref m), none] h0 m K T L dp g (atP K sub) := by
  intro h s no rx
  by_cases k27 : kdP K s = 27
  · cases sub with
    | none =>
      have ee : atP K none s = (noP 31 (vaP K s) 0 (tkP K 40 (stP 40 (vaP K s) s)), nNo (pBk s)) := by
        unfold atP
        rw [if_neg (fun z => absurd z.2 (by decide)), if_neg (by omega), if_neg (by omega)]
      rw [ee]
      exact s_ma_deep hd rx k27 (hno rfl)
    | some f =>
      have ee : atP K (some f) s = (tkP K 28 (f (tkP K 27 s)).1, (f (tkP K 27 s)).2) := by
        unfold atP
        rw [if_pos ⟨k27, rfl⟩]
        rfl
      rw [ee]
      exact s_ma_open hd rx k27 (hsub f rfl).1 (hsub f rfl).2 hd2
  · by_cases k21 : kdP K s = 21
    · have ee : atP K sub s = lkP K 21 s := by
        unfold atP
        rw [if_neg (fun z => k27 z.1), if_pos (Or.inl k21), k21]
      rw [ee]
      exact s_ma_21 hd rx k21
    · by_cases k2 : kdP K s = 2
      · have ee : atP K sub s = lkP K 2 s := by
          unfold atP
          rw [if_neg (fun z => k27 z.1), if_pos (Or.inr k2), k2]
        rw [ee]
        exact s_ma_2 hd rx k2
      · have e4 : ∀ k, (k = 20 ∨ k = 22 ∨ k = 23) → kdP K s = k → atP K sub s = (noP k 0 0 (tkP K k (stP k 0 s)), nNo (pBk s)) := fun k hk ek => by
          unfold atP
          rw [if_neg (fun z => k27 z.1), if_neg (by omega), if_pos (by omega), ek]
          rcases hk with rfl | rfl | rfl <;> rfl
        by_cases k20 : kdP K s = 20
        · rw [e4 20 (by decide) k20]
          exact s_ma_20 hd rx k20
        · by_cases k22 : kdP K s = 22
          · rw [e4 22 (by decide) k22]
            exact s_ma_22 hd rx k22
          · by_cases k23 : kdP K s = 23
            · rw [e4 23 (by decide) k23]
              exact s_ma_23 hd rx k23
            · have ee : atP K sub s = (noP 31 (vaP K s) 0 (tkP K 40 (stP 40 (vaP K s) s)), nNo (pBk s)) := by
                unfold atP
                rw [if_neg (fun z => k27 z.1), if_neg (by omega), if_neg (by omega)]
              rw [ee]
              by_cases k40 : kdP K s = 40
              · exact s_ma_num hd rx k40
              · exact s_ma_wr hd rx (by omega)

end RMC
