/-! the reference reads sums, single tests -/
theorem noP_er0 {so l r : Nat} {s : PST} (h : pEr (noP so l r s) = 0) : pEr s = 0 := by
  rw [noP_er] at h
  exact h
theorem stP_er0 {kd n : Nat} {s : PST} (h : pEr (stP kd n s) = 0) : pEr s = 0 := by
  unfold stP at h
  rw [pEr_up] at h
  exact h
theorem upP_er0 {f : DRF → DRF} {s : PST} (h : pEr (upP f s) = 0) : pEr s = 0 := by
  rw [pEr_up] at h
  exact h
theorem rpO_er0 {o : Option Nat} {s : PST} (h : pEr (rpO o s) = 0) : pEr s = 0 := by
  obtain ⟨-, e⟩ := rpO_ne h
  rw [e] at h
  exact h
theorem lpP_er0 {K : TKS} {op : Nat → Bool} {x : PST → PST × Nat} (hx : ∀ s, pEr (x s).1 = 0 → pEr s = 0) : ∀ (n : Nat) (q : PST × Nat), pEr (lpP K op x n q).1 = 0 → pEr q.1 = 0
  | 0, _, h => h
  | n + 1, q, h => by
    unfold lpP at h
    split at h
    · exact (tkP_er (hx _ (stP_er0 (noP_er0 (lpP_er0 hx n _ h))))).1
    · exact h
theorem opP_er0 {K : TKS} {op : Nat → Bool} {x : PST → PST × Nat} (hx : ∀ s, pEr (x s).1 = 0 → pEr s = 0) (s : PST) (h : pEr (opP K op x s).1 = 0) : pEr s = 0 := hx _ (lpP_er0 hx 400 _ h)
theorem lkP_er0 {K : TKS} {w : Nat} {s : PST} (h : pEr (lkP K w s).1 = 0) : pEr s = 0 := (tkP_er (rpO_er0 (stP_er0 (tkP_er (noP_er0 h)).1))).1
theorem atP_er0 {K : TKS} {sub : Option (PST → PST × Nat)} (hs : ∀ f, sub = some f → ∀ s, pEr (f s).1 = 0 → pEr s = 0) (s : PST) (h : pEr (atP K sub s).1 = 0) : pEr s = 0 := by
  unfold atP at h
  split at h
  · cases sub with
    | none =>
      rename_i z
      exact absurd z.2 (by decide)
    | some f => exact (tkP_er (hs f rfl _ (tkP_er h).1)).1
  · split at h
    · exact lkP_er0 h
    · split at h
      · exact stP_er0 (tkP_er (noP_er0 h)).1
      · exact stP_er0 (tkP_er (noP_er0 h)).1
theorem smF_er0 {K : TKS} {sub : Option (PST → PST × Nat)} (hs : ∀ f, sub = some f → ∀ s, pEr (f s).1 = 0 → pEr s = 0) (s : PST) (h : pEr (smF K sub s).1 = 0) : pEr s = 0 := opP_er0 (fun s h => opP_er0 (fun s h => atP_er0 hs s h) s h) s h
theorem smP_er0 {K : TKS} : ∀ (b : Nat) (s : PST), pEr (smP K b s).1 = 0 → pEr s = 0
  | 0, s, h => smF_er0 (sub := none) (fun _ e => nomatch e) s h
  | b + 1, s, h => smF_er0 (fun f e s h => by
    cases e
    exact smP_er0 b s h) s h
theorem ntP_er0 {K : TKS} : ∀ (n : Nat) (s : PST), pEr (ntP K n s).1 = 0 → pEr s = 0
  | 0, _, h => h
  | n + 1, s, h => by
    unfold ntP at h
    split at h
    · exact (tkP_er (ntP_er0 n _ h)).1
    · exact h
theorem nnP_er : ∀ (n : Nat) (q : PST × Nat), pEr (nnP n q).1 = pEr q.1
  | 0, _ => rfl
  | n + 1, q => by
    show pEr (noP _ _ _ _) = _
    rw [noP_er]
    exact nnP_er n q
theorem siP_er0 {K : TKS} {kp : PST → PST × Nat} (hk : ∀ s, pEr (kp s).1 = 0 → pEr s = 0) (s : PST) (h : pEr (siP K kp s).1 = 0) : pEr s = 0 := by
  unfold siP at h
  rw [nnP_er] at h
  have h2 : pEr (kp (ntP K 400 s).1).1 = 0 := by
    have h : pEr (if (ntP K 400 s).2 % 2 = 1 then stP 15 0 (kp (ntP K 400 s).1).1 else (kp (ntP K 400 s).1).1) = 0 := h
    split at h
    · exact stP_er0 h
    · exact h
  exact ntP_er0 400 s (hk _ h2)
theorem cmP_er0 {K : TKS} {sm : PST → PST × Nat} (hs : ∀ s, pEr (sm s).1 = 0 → pEr s = 0) (s : PST) (h : pEr (cmP K sm s).1 = 0) : pEr s = 0 := hs _ (tkP_er (hs _ (stP_er0 (noP_er0 h)))).1
theorem kpP_er0 {K : TKS} {sub : Option (PST → PST × Nat)} {sm : PST → PST × Nat} (hs : ∀ f, sub = some f → ∀ s, pEr (f s).1 = 0 → pEr s = 0) (hm : ∀ s, pEr (sm s).1 = 0 → pEr s = 0) (s : PST) (h : pEr (kpP K sub sm s).1 = 0) : pEr s = 0 := by
  unfold kpP at h
  split at h
  · cases sub with
    | none =>
      rename_i z
      exact absurd z.2 (by decide)
    | some f => exact (tkP_er (hs f rfl _ (tkP_er h).1)).1
  · split at h
    · exact lkP_er0 h
    · exact cmP_er0 hm s h
theorem teF_er0 {K : TKS} {sub : Option (PST → PST × Nat)} {sm : PST → PST × Nat} (hs : ∀ f, sub = some f → ∀ s, pEr (f s).1 = 0 → pEr s = 0) (hm : ∀ s, pEr (sm s).1 = 0 → pEr s = 0) (s : PST) (h : pEr (teF K sub sm s).1 = 0) : pEr s = 0 := opP_er0 (fun s h => opP_er0 (fun s h => siP_er0 (fun s h => kpP_er0 hs hm s h) s h) s h) s h
theorem teP_er0 {K : TKS} : ∀ (b : Nat) (s : PST), pEr (teP K b s).1 = 0 → pEr s = 0
  | 0, s, h => teF_er0 (sub := none) (fun _ e => nomatch e) (smP_er0 0) s h
  | b + 1, s, h => teF_er0 (fun f e s h => by
    cases e
    exact teP_er0 b s h) (smP_er0 (b + 1)) s h
section RME
variable {G : GT} {d : Nat} {h0 h : AH} {m : Nat} {K : TKS} {T : List Nat} {L : Nat → Nat} {s : PST} {dp : Nat} {g : GCT} {no : Nat}

set_option maxHeartbeats 4000000 in
set_option maxRecDepth 100000 in
theorem s_mvalue_l {d2 : Nat} {x : PST → PST × Nat} (hm : ∀ s, pPo s ≤ pPo (x s).1) (hd : 4 ≤ d) (hx : ∀ h s no, RxM h0 h m K T L s dp g no → RQ G mX12_product d2 0 [some (.ref m), none] [] h (Ri fun v h1 => ∃ n1, RxM h0 h1 m K T L (x s).1 dp g n1 ∧ (pEr (x s).1 = 0 → v = nI (x s).2) ∧ n1 + pPo s ≤ no + pPo (x s).1)) (hd2 : d2 + 1 ≤ d) (mono : ∀ s, pEr (x s).1 = 0 → pEr s = 0) : ∀ (n : Nat) (h : AH) (q : PST × Nat) (no : Nat) (x1 : Int32) (x3 : Option Value), 400 ≤ n + pPo q.1 → RxM h0 h m K T L q.1 dp g no → (pEr q.1 = 0 → x1 = nI q.2) → RQ G mX12_value d 5 [some (.ref m), some (.int x1), x3] [] h (Ri fun v h1 => ∃ n1, RxM h0 h1 m K T L (lpP K isPM x n q).1 dp g n1 ∧ (pEr (lpP K isPM x n q).1 = 0 → v = nI (lpP K isPM x n q).2) ∧ n1 + pPo q.1 ≤ no + pPo (lpP K isPM x n q).1) := by
  intro n
  induction n with
  | zero =>
    intro h q no x1 x3 hi rx hx1
    obtain ⟨⟨th, by_, ea, a0⟩, -⟩ := id rx
    have nk := rx.last (by omega)
    refine tX12_value_5  (r := ?_)
    refine tX12_value_6  (r := ?_)
    refine tX12_value_8 (hd := (by omega)) (ha := (by first | assumption | (repeat (first | assumption | exact At.set_eq2 (by first | omega | (simp only [hset, hnew]; omega) | rfl | decide) | exact At.new_eq2 _ _ (by first | omega | (simp only [hset, hnew]; omega) | rfl | decide) | refine At.set_ne ?_ (by first | omega | (simp only [hset, hnew]; omega) | rfl | decide) | refine At.new_ne ?_)))) (call := s_mis (d := 2) rx (k := 36) (by decide)) (k := ?_)
    rintro x_ h_ ⟨hx_, e_⟩
    rw [e_, hx_, if_neg (by omega)]
    refine tX12_value_11  (kt := fun c_ => by exfalso; exact c_ rfl) (kf := fun _ => ?_)
    refine tX12_value_14  (r := ?_)
    refine tX12_value_15  (r := ?_)
    refine tX12_value_17 (hd := (by omega)) (ha := (by first | assumption | (repeat (first | assumption | exact At.set_eq2 (by first | omega | (simp only [hset, hnew]; omega) | rfl | decide) | exact At.new_eq2 _ _ (by first | omega | (simp only [hset, hnew]; omega) | rfl | decide) | refine At.set_ne ?_ (by first | omega | (simp only [hset, hnew]; omega) | rfl | decide) | refine At.new_ne ?_)))) (call := s_mis (d := 2) rx (k := 37) (by decide)) (k := ?_)
    rintro x_ h_ ⟨hx_, e_⟩
    rw [e_, hx_, if_neg (by omega)]
    refine tX12_value_20  (kf := fun c_ => by exfalso; exact c_ rfl) (kt := fun _ => ?_)
    refine tX12_value_57  (r := ?_)
    refine tX12_value_58  (hP := ?_)
    exact ⟨_, rfl, _, rx, hx1, Nat.le_refl _⟩
  | succ n ih =>
    intro h q no x1 x3 hi rx hx1
    by_cases ek : kdP K q.1 = 36
    · have e : lpP K isPM x (n + 1) q = lpP K isPM x n (jnP 36 q.2 (x (tkP K 36 q.1)).2 (x (tkP K 36 q.1)).1) := by
        have e9 : lpP K isPM x (n + 1) q = lpP K isPM x n (jnP (kdP K q.1) q.2 (x (tkP K (kdP K q.1) q.1)).2 (x (tkP K (kdP K q.1) q.1)).1) := if_pos (by rw [ek]; rfl)
        rw [e9, ek]
      rw [e]
      obtain ⟨et, e1⟩ := tkP_y (K := K) (s := q.1) ek (by decide)
      have ex : pEr (x (tkP K 36 q.1)).1 = 0 → pEr q.1 = 0 := fun z => (tkP_er (mono _ z)).1
      have kv : K.2.1 (pPo q.1) = kdP K q.1 := by
        have e2 : kdP K q.1 = kdT K (pPo q.1) := if_neg e1
        rw [e2, rx.ne42.1]
      obtain ⟨⟨th, by_, ea, a0⟩, a1, ⟨q2, a2, c2⟩, ⟨q3, a3, c3⟩, ⟨q4, a4, c4⟩, b1, b2, b3, b4, b5, b6, u, tk, nm⟩ := id rx
      obtain ⟨⟨v1, y1, xx1⟩, ⟨v2, y2, x2⟩, ⟨v3, y3, x3⟩, ⟨v4, y4, x4⟩, ⟨v5, y5, x5⟩, tw⟩ := id tk
      have k401 := tw.2.1
      have w1 := u.at y1 (by omega) (by omega) (by omega)
      have w2 := u.at y2 (by omega) (by omega) (by omega)
      have w3 := u.at y3 (by omega) (by omega) (by omega)
      have w4 := u.at y4 (by omega) (by omega) (by omega)
      have w5 := u.at y5 (by omega) (by omega) (by omega)
      have z0 := a0.1
      have z1 := a1.1
      have l2_ := a2.1
      have l3_ := a3.1
      have l4_ := a4.1
      refine tX12_value_5  (r := ?_)
      refine tX12_value_6  (r := ?_)
      refine tX12_value_8 (hd := (by omega)) (ha := (by first | assumption | (repeat (first | assumption | exact At.set_eq2 (by first | omega | (simp only [hset, hnew]; omega) | rfl | decide) | exact At.new_eq2 _ _ (by first | omega | (simp only [hset, hnew]; omega) | rfl | decide) | refine At.set_ne ?_ (by first | omega | (simp only [hset, hnew]; omega) | rfl | decide) | refine At.new_ne ?_)))) (call := s_mis (d := 2) rx (k := 36) (by decide)) (k := ?_)
      rintro x_ h_ ⟨hx_, e_⟩
      rw [e_, hx_, if_pos ek]
      refine tX12_value_11  (kf := fun c_ => by exfalso; exact absurd c_ (by decide)) (kt := fun _ => ?_)
      refine tX12_value_23  (r := ?_)
      refine tX12_value_24 (ha := (by first | assumption | (repeat (first | assumption | exact At.set_eq2 (by first | omega | (simp only [hset, hnew]; omega) | rfl | decide) | exact At.new_eq2 _ _ (by first | omega | (simp only [hset, hnew]; omega) | rfl | decide) | refine At.set_ne ?_ (by first | omega | (simp only [hset, hnew]; omega) | rfl | decide) | refine At.new_ne ?_)))) (hv := rfl) (r := ?_)
      refine tX12_value_27  (r := ?_)
      refine tX12_value_28 (ha := (by first | assumption | (repeat (first | assumption | exact At.set_eq2 (by first | omega | (simp only [hset, hnew]; omega) | rfl | decide) | exact At.new_eq2 _ _ (by first | omega | (simp only [hset, hnew]; omega) | rfl | decide) | refine At.set_ne ?_ (by first | omega | (simp only [hset, hnew]; omega) | rfl | decide) | refine At.new_ne ?_)))) (hv := rfl) (r := ?_)
      refine tX12_value_31 (ha := (by first | assumption | (repeat (first | assumption | exact At.set_eq2 (by first | omega | (simp only [hset, hnew]; omega) | rfl | decide) | exact At.new_eq2 _ _ (by first | omega | (simp only [hset, hnew]; omega) | rfl | decide) | refine At.set_ne ?_ (by first | omega | (simp only [hset, hnew]; omega) | rfl | decide) | refine At.new_ne ?_)))) (hx := rfl) (hj := (by omega)) (hn := (by decide)) (r := ?_)
      rw [x2 _ b3]
      show RQ _ _ _ _ _ (.int (nI (soK (K.2.1 (pPo q.1)))) :: _) _ _
      rw [kv, ek]
      show RQ _ _ _ _ _ (.int (nI 40) :: _) _ _
      refine tX12_value_32  (r := ?_)
      refine tX12_value_33  (r := ?_)
      refine tX12_value_34  (r := ?_)
      refine tX12_value_35 (ha := (by first | assumption | (repeat (first | assumption | exact At.set_eq2 (by first | omega | (simp only [hset, hnew]; omega) | rfl | decide) | exact At.new_eq2 _ _ (by first | omega | (simp only [hset, hnew]; omega) | rfl | decide) | refine At.set_ne ?_ (by first | omega | (simp only [hset, hnew]; omega) | rfl | decide) | refine At.new_ne ?_)))) (hv := rfl) (r := ?_)
      refine tX12_value_38  (r := ?_)
      refine tX12_value_39  (r := ?_)
      rw [nI_add]
      refine tX12_value_40 (ha := (by first | assumption | (repeat (first | assumption | exact At.set_eq2 (by first | omega | (simp only [hset, hnew]; omega) | rfl | decide) | exact At.new_eq2 _ _ (by first | omega | (simp only [hset, hnew]; omega) | rfl | decide) | refine At.set_ne ?_ (by first | omega | (simp only [hset, hnew]; omega) | rfl | decide) | refine At.new_ne ?_)))) (hlen := rfl) (r := ?_)
      have rx1 := rx.next a0 (by omega)
      refine tX12_value_43  (r := ?_)
      refine tX12_value_44  (r := ?_)
      refine tX12_value_45  (r := ?_)
      refine tX12_value_46  (r := ?_)
      refine tX12_value_47 (hd := (by omega)) (ha := (by first | assumption | (repeat (first | assumption | exact At.set_eq2 (by first | omega | (simp only [hset, hnew]; omega) | rfl | decide) | exact At.new_eq2 _ _ (by first | omega | (simp only [hset, hnew]; omega) | rfl | decide) | refine At.set_ne ?_ (by first | omega | (simp only [hset, hnew]; omega) | rfl | decide) | refine At.new_ne ?_)))) (call := hx _ _ _ rx1) (k := ?_)
      rintro v2 h2 ⟨n2, rx2, hv2, hb2⟩
      rw [← et] at rx2 hv2
      obtain ⟨⟨th2, by2, ea2, p2⟩, -⟩ := id rx2
      have b2_ := rx.2.2.2.2.2.2.1
      have mm := hm (tkP K 36 q.1)
      have pp : pPo (tkP K 36 q.1) = pPo q.1 + 1 := by rw [et]
      have hb3 : n2 + (pPo q.1 + 1) ≤ no + pPo (x (tkP K 36 q.1)).1 := by
        rw [et]
        exact hb2
      refine tX12_value_50 (hd := (by omega)) (ha := (by first | assumption | (repeat (first | assumption | exact At.set_eq2 (by first | omega | (simp only [hset, hnew]; omega) | rfl | decide) | exact At.new_eq2 _ _ (by first | omega | (simp only [hset, hnew]; omega) | rfl | decide) | refine At.set_ne ?_ (by first | omega | (simp only [hset, hnew]; omega) | rfl | decide) | refine At.new_ne ?_)))) (call := s_mnode (d := 3) rx2 (by omega) (so := 40) (lN := q.2) (rN := (x (tkP K 36 q.1)).2) (fun _ => rfl) (fun z => hx1 (ex z)) hv2) (k := ?_)
      rintro v3 h3 ⟨hv3, rx3⟩
      refine tX12_value_53  (r := ?_)
      refine tX12_value_54 (r := ?_)
      have EQ : Eqv (noP 40 q.2 (x (tkP K 36 q.1)).2 (x (tkP K 36 q.1)).1) (jnP 36 q.2 (x (tkP K 36 q.1)).2 (x (tkP K 36 q.1)).1).1 := Eqv.no (Eqv.st _).symm
      have pq : pPo (jnP 36 q.2 (x (tkP K 36 q.1)).2 (x (tkP K 36 q.1)).1).1 = pPo (x (tkP K 36 q.1)).1 := by
        rw [← EQ.1, noP_po]
      have key := ih h3 (jnP 36 q.2 (x (tkP K 36 q.1)).2 (x (tkP K 36 q.1)).1) _ v3 (some (.int (nI 40))) (by omega) (rx3.eqv EQ) (fun z => hv3 (by
        have z2 := EQ.2.1.trans z
        rw [noP_er] at z2
        exact z2))
      refine key.imp (fun o9 h9 q9 => ?_)
      obtain ⟨v9, e9, n9, r9, i9, b9⟩ := q9
      refine ⟨v9, e9, n9, r9, i9, ?_⟩
      omega
    by_cases ek2 : kdP K q.1 = 37
    · have ek := ek2
      have e : lpP K isPM x (n + 1) q = lpP K isPM x n (jnP 37 q.2 (x (tkP K 37 q.1)).2 (x (tkP K 37 q.1)).1) := by
        have e9 : lpP K isPM x (n + 1) q = lpP K isPM x n (jnP (kdP K q.1) q.2 (x (tkP K (kdP K q.1) q.1)).2 (x (tkP K (kdP K q.1) q.1)).1) := if_pos (by rw [ek]; rfl)
        rw [e9, ek]
      rw [e]
      obtain ⟨et, e1⟩ := tkP_y (K := K) (s := q.1) ek (by decide)
      have ex : pEr (x (tkP K 37 q.1)).1 = 0 → pEr q.1 = 0 := fun z => (tkP_er (mono _ z)).1
      have kv : K.2.1 (pPo q.1) = kdP K q.1 := by
        have e2 : kdP K q.1 = kdT K (pPo q.1) := if_neg e1
        rw [e2, rx.ne42.1]
      obtain ⟨⟨th, by_, ea, a0⟩, a1, ⟨q2, a2, c2⟩, ⟨q3, a3, c3⟩, ⟨q4, a4, c4⟩, b1, b2, b3, b4, b5, b6, u, tk, nm⟩ := id rx
      obtain ⟨⟨v1, y1, xx1⟩, ⟨v2, y2, x2⟩, ⟨v3, y3, x3⟩, ⟨v4, y4, x4⟩, ⟨v5, y5, x5⟩, tw⟩ := id tk
      have k401 := tw.2.1
      have w1 := u.at y1 (by omega) (by omega) (by omega)
      have w2 := u.at y2 (by omega) (by omega) (by omega)
      have w3 := u.at y3 (by omega) (by omega) (by omega)
      have w4 := u.at y4 (by omega) (by omega) (by omega)
      have w5 := u.at y5 (by omega) (by omega) (by omega)
      have z0 := a0.1
      have z1 := a1.1
      have l2_ := a2.1
      have l3_ := a3.1
      have l4_ := a4.1
      refine tX12_value_5  (r := ?_)
      refine tX12_value_6  (r := ?_)
      refine tX12_value_8 (hd := (by omega)) (ha := (by first | assumption | (repeat (first | assumption | exact At.set_eq2 (by first | omega | (simp only [hset, hnew]; omega) | rfl | decide) | exact At.new_eq2 _ _ (by first | omega | (simp only [hset, hnew]; omega) | rfl | decide) | refine At.set_ne ?_ (by first | omega | (simp only [hset, hnew]; omega) | rfl | decide) | refine At.new_ne ?_)))) (call := s_mis (d := 2) rx (k := 36) (by decide)) (k := ?_)
      rintro x_ h_ ⟨hx_, e_⟩
      rw [e_, hx_, if_neg (by omega)]
      refine tX12_value_11  (kt := fun c_ => by exfalso; exact c_ rfl) (kf := fun _ => ?_)
      refine tX12_value_14  (r := ?_)
      refine tX12_value_15  (r := ?_)
      refine tX12_value_17 (hd := (by omega)) (ha := (by first | assumption | (repeat (first | assumption | exact At.set_eq2 (by first | omega | (simp only [hset, hnew]; omega) | rfl | decide) | exact At.new_eq2 _ _ (by first | omega | (simp only [hset, hnew]; omega) | rfl | decide) | refine At.set_ne ?_ (by first | omega | (simp only [hset, hnew]; omega) | rfl | decide) | refine At.new_ne ?_)))) (call := s_mis (d := 2) rx (k := 37) (by decide)) (k := ?_)
      rintro x_ h_ ⟨hx_, e_⟩
      rw [e_, hx_, if_pos ek]
      refine tX12_value_20  (kt := fun c_ => by exfalso; exact absurd c_ (by decide)) (kf := fun _ => ?_)
      refine tX12_value_23  (r := ?_)
      refine tX12_value_24 (ha := (by first | assumption | (repeat (first | assumption | exact At.set_eq2 (by first | omega | (simp only [hset, hnew]; omega) | rfl | decide) | exact At.new_eq2 _ _ (by first | omega | (simp only [hset, hnew]; omega) | rfl | decide) | refine At.set_ne ?_ (by first | omega | (simp only [hset, hnew]; omega) | rfl | decide) | refine At.new_ne ?_)))) (hv := rfl) (r := ?_)
      refine tX12_value_27  (r := ?_)
      refine tX12_value_28 (ha := (by first | assumption | (repeat (first | assumption | exact At.set_eq2 (by first | omega | (simp only [hset, hnew]; omega) | rfl | decide) | exact At.new_eq2 _ _ (by first | omega | (simp only [hset, hnew]; omega) | rfl | decide) | refine At.set_ne ?_ (by first | omega | (simp only [hset, hnew]; omega) | rfl | decide) | refine At.new_ne ?_)))) (hv := rfl) (r := ?_)
      refine tX12_value_31 (ha := (by first | assumption | (repeat (first | assumption | exact At.set_eq2 (by first | omega | (simp only [hset, hnew]; omega) | rfl | decide) | exact At.new_eq2 _ _ (by first | omega | (simp only [hset, hnew]; omega) | rfl | decide) | refine At.set_ne ?_ (by first | omega | (simp only [hset, hnew]; omega) | rfl | decide) | refine At.new_ne ?_)))) (hx := rfl) (hj := (by omega)) (hn := (by decide)) (r := ?_)
      rw [x2 _ b3]
      show RQ _ _ _ _ _ (.int (nI (soK (K.2.1 (pPo q.1)))) :: _) _ _
      rw [kv, ek]
      show RQ _ _ _ _ _ (.int (nI 41) :: _) _ _
      refine tX12_value_32  (r := ?_)
      refine tX12_value_33  (r := ?_)
      refine tX12_value_34  (r := ?_)
      refine tX12_value_35 (ha := (by first | assumption | (repeat (first | assumption | exact At.set_eq2 (by first | omega | (simp only [hset, hnew]; omega) | rfl | decide) | exact At.new_eq2 _ _ (by first | omega | (simp only [hset, hnew]; omega) | rfl | decide) | refine At.set_ne ?_ (by first | omega | (simp only [hset, hnew]; omega) | rfl | decide) | refine At.new_ne ?_)))) (hv := rfl) (r := ?_)
      refine tX12_value_38  (r := ?_)
      refine tX12_value_39  (r := ?_)
      rw [nI_add]
      refine tX12_value_40 (ha := (by first | assumption | (repeat (first | assumption | exact At.set_eq2 (by first | omega | (simp only [hset, hnew]; omega) | rfl | decide) | exact At.new_eq2 _ _ (by first | omega | (simp only [hset, hnew]; omega) | rfl | decide) | refine At.set_ne ?_ (by first | omega | (simp only [hset, hnew]; omega) | rfl | decide) | refine At.new_ne ?_)))) (hlen := rfl) (r := ?_)
      have rx1 := rx.next a0 (by omega)
      refine tX12_value_43  (r := ?_)
      refine tX12_value_44  (r := ?_)
      refine tX12_value_45  (r := ?_)
      refine tX12_value_46  (r := ?_)
      refine tX12_value_47 (hd := (by omega)) (ha := (by first | assumption | (repeat (first | assumption | exact At.set_eq2 (by first | omega | (simp only [hset, hnew]; omega) | rfl | decide) | exact At.new_eq2 _ _ (by first | omega | (simp only [hset, hnew]; omega) | rfl | decide) | refine At.set_ne ?_ (by first | omega | (simp only [hset, hnew]; omega) | rfl | decide) | refine At.new_ne ?_)))) (call := hx _ _ _ rx1) (k := ?_)
      rintro v2 h2 ⟨n2, rx2, hv2, hb2⟩
      rw [← et] at rx2 hv2
      obtain ⟨⟨th2, by2, ea2, p2⟩, -⟩ := id rx2
      have b2_ := rx.2.2.2.2.2.2.1
      have mm := hm (tkP K 37 q.1)
      have pp : pPo (tkP K 37 q.1) = pPo q.1 + 1 := by rw [et]
      have hb3 : n2 + (pPo q.1 + 1) ≤ no + pPo (x (tkP K 37 q.1)).1 := by
        rw [et]
        exact hb2
      refine tX12_value_50 (hd := (by omega)) (ha := (by first | assumption | (repeat (first | assumption | exact At.set_eq2 (by first | omega | (simp only [hset, hnew]; omega) | rfl | decide) | exact At.new_eq2 _ _ (by first | omega | (simp only [hset, hnew]; omega) | rfl | decide) | refine At.set_ne ?_ (by first | omega | (simp only [hset, hnew]; omega) | rfl | decide) | refine At.new_ne ?_)))) (call := s_mnode (d := 3) rx2 (by omega) (so := 41) (lN := q.2) (rN := (x (tkP K 37 q.1)).2) (fun _ => rfl) (fun z => hx1 (ex z)) hv2) (k := ?_)
      rintro v3 h3 ⟨hv3, rx3⟩
      refine tX12_value_53  (r := ?_)
      refine tX12_value_54 (r := ?_)
      have EQ : Eqv (noP 41 q.2 (x (tkP K 37 q.1)).2 (x (tkP K 37 q.1)).1) (jnP 37 q.2 (x (tkP K 37 q.1)).2 (x (tkP K 37 q.1)).1).1 := Eqv.no (Eqv.st _).symm
      have pq : pPo (jnP 37 q.2 (x (tkP K 37 q.1)).2 (x (tkP K 37 q.1)).1).1 = pPo (x (tkP K 37 q.1)).1 := by
        rw [← EQ.1, noP_po]
      have key := ih h3 (jnP 37 q.2 (x (tkP K 37 q.1)).2 (x (tkP K 37 q.1)).1) _ v3 (some (.int (nI 41))) (by omega) (rx3.eqv EQ) (fun z => hv3 (by
        have z2 := EQ.2.1.trans z
        rw [noP_er] at z2
        exact z2))
      refine key.imp (fun o9 h9 q9 => ?_)
      obtain ⟨v9, e9, n9, r9, i9, b9⟩ := q9
      refine ⟨v9, e9, n9, r9, i9, ?_⟩
      omega
    · have e : lpP K isPM x (n + 1) q = q := if_neg (fun z => (isPM_or z).elim ek ek2)
      rw [e]
      obtain ⟨⟨th, by_, ea, a0⟩, -⟩ := id rx
      refine tX12_value_5  (r := ?_)
      refine tX12_value_6  (r := ?_)
      refine tX12_value_8 (hd := (by omega)) (ha := (by first | assumption | (repeat (first | assumption | exact At.set_eq2 (by first | omega | (simp only [hset, hnew]; omega) | rfl | decide) | exact At.new_eq2 _ _ (by first | omega | (simp only [hset, hnew]; omega) | rfl | decide) | refine At.set_ne ?_ (by first | omega | (simp only [hset, hnew]; omega) | rfl | decide) | refine At.new_ne ?_)))) (call := s_mis (d := 2) rx (k := 36) (by decide)) (k := ?_)
      rintro x_ h_ ⟨hx_, e_⟩
      rw [e_, hx_, if_neg (by omega)]
      refine tX12_value_11  (kt := fun c_ => by exfalso; exact c_ rfl) (kf := fun _ => ?_)
      refine tX12_value_14  (r := ?_)
      refine tX12_value_15  (r := ?_)
      refine tX12_value_17 (hd := (by omega)) (ha := (by first | assumption | (repeat (first | assumption | exact At.set_eq2 (by first | omega | (simp only [hset, hnew]; omega) | rfl | decide) | exact At.new_eq2 _ _ (by first | omega | (simp only [hset, hnew]; omega) | rfl | decide) | refine At.set_ne ?_ (by first | omega | (simp only [hset, hnew]; omega) | rfl | decide) | refine At.new_ne ?_)))) (call := s_mis (d := 2) rx (k := 37) (by decide)) (k := ?_)
      rintro x_ h_ ⟨hx_, e_⟩
      rw [e_, hx_, if_neg (by omega)]
      refine tX12_value_20  (kf := fun c_ => by exfalso; exact c_ rfl) (kt := fun _ => ?_)
      refine tX12_value_57  (r := ?_)
      refine tX12_value_58  (hP := ?_)
      exact ⟨_, rfl, _, rx, hx1, Nat.le_refl _⟩

set_option maxHeartbeats 4000000 in
set_option maxRecDepth 100000 in
theorem s_mvalueF {d2 : Nat} {x : PST → PST × Nat} (hm : ∀ s, pPo s ≤ pPo (x s).1) (hd : 4 ≤ d) (hx : ∀ h s no, RxM h0 h m K T L s dp g no → RQ G mX12_product d2 0 [some (.ref m), none] [] h (Ri fun v h1 => ∃ n1, RxM h0 h1 m K T L (x s).1 dp g n1 ∧ (pEr (x s).1 = 0 → v = nI (x s).2) ∧ n1 + pPo s ≤ no + pPo (x s).1)) (hd2 : d2 + 1 ≤ d) (mono : ∀ s, pEr (x s).1 = 0 → pEr s = 0) (rx : RxM h0 h m K T L s dp g no) : RQ G mX12_value d 0 [some (.ref m), none, none] [] h (Ri fun v h1 => ∃ n1, RxM h0 h1 m K T L (opP K isPM x s).1 dp g n1 ∧ (pEr (opP K isPM x s).1 = 0 → v = nI (opP K isPM x s).2) ∧ n1 + pPo s ≤ no + pPo (opP K isPM x s).1) := by
  obtain ⟨⟨th, by_, ea, a0⟩, -⟩ := id rx
  have mm := hm s
  refine tX12_value_0  (r := ?_)
  refine tX12_value_1 (hd := (by omega)) (ha := (by first | assumption | (repeat (first | assumption | exact At.set_eq2 (by first | omega | (simp only [hset, hnew]; omega) | rfl | decide) | exact At.new_eq2 _ _ (by first | omega | (simp only [hset, hnew]; omega) | rfl | decide) | refine At.set_ne ?_ (by first | omega | (simp only [hset, hnew]; omega) | rfl | decide) | refine At.new_ne ?_)))) (call := hx _ _ _ rx) (k := ?_)
  rintro v2 h2 ⟨n2, rx2, hv2, hb2⟩
  refine tX12_value_4  (r := ?_)
  have key := s_mvalue_l hm hd hx hd2 mono 400 h2 (x s) _ v2 none (by omega) rx2 hv2
  refine key.imp (fun o9 h9 q9 => ?_)
  obtain ⟨v9, e9, n9, r9, i9, b9⟩ := q9
  refine ⟨v9, e9, n9, r9, i9, ?_⟩
  show n9 + pPo s ≤ no + pPo (lpP K isPM x 400 (x s)).1
  omega

theorem s_mvalue : ∀ (b dp d : Nat), dp + b = 6 → 10 + 3 * b ≤ d → ExM G mX12_value d [some (.ref m), none, none] h0 m K T L dp g (smP K b)
  | 0, dp, d, hb, hd => fun h s no rx => s_mvalueF (d2 := 9) (x := pdP K none) (opP_po (atP_po (fun _ e => nomatch e))) (by omega) (fun h s no rx => s_mproduct (d2 := 8) (x := atP K none) (atP_po (fun _ e => nomatch e)) (by omega) (fun h s no rx => s_matom (d2 := 0) (sub := none) (fun _ e => nomatch e) (fun _ => by omega) (by omega) (by omega) h s no rx) (by omega) (atP_er0 (fun _ e => nomatch e)) rx) (by omega) (opP_er0 (atP_er0 (fun _ e => nomatch e))) rx
  | b + 1, dp, d, hb, hd => fun h s no rx => s_mvalueF (d2 := 12 + 3 * b) (x := pdP K (some (smP K b))) (opP_po (atP_po (fun f e => by
      cases e
      exact smP_po b))) (by omega) (fun h s no rx => s_mproduct (d2 := 11 + 3 * b) (x := atP K (some (smP K b))) (atP_po (fun f e => by
      cases e
      exact smP_po b)) (by omega) (fun h s no rx => s_matom (d2 := 10 + 3 * b) (sub := some (smP K b)) (fun f e => by
      cases e
      exact ⟨by omega, s_mvalue b (dp + 1) (10 + 3 * b) (by omega) (by omega)⟩) (fun e => nomatch e) (by omega) (by omega) h s no rx) (by omega) (atP_er0 (fun f e => by
      cases e
      exact smP_er0 b)) rx) (by omega) (opP_er0 (atP_er0 (fun f e => by
      cases e
      exact smP_er0 b))) rx

end RME
