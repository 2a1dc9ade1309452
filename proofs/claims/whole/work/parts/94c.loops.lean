/-! the reference reads products, sums, tests -/
theorem stP_po {kd n : Nat} {s : PST} : pPo (stP kd n s) = pPo s := pPo_up
theorem lpP_po {K : TKS} {op : Nat → Bool} {x : PST → PST × Nat} (hx : ∀ s, pPo s ≤ pPo (x s).1) : ∀ (n : Nat) (q : PST × Nat), pPo q.1 ≤ pPo (lpP K op x n q).1
  | 0, _ => Nat.le_refl _
  | n + 1, q => by
    unfold lpP
    split
    · refine Nat.le_trans ?_ (lpP_po hx n _)
      show pPo q.1 ≤ pPo (noP _ _ _ (stP _ _ _))
      rw [noP_po, stP_po]
      exact Nat.le_trans tkP_po.1 (hx _)
    · exact Nat.le_refl _
theorem opP_po {K : TKS} {op : Nat → Bool} {x : PST → PST × Nat} (hx : ∀ s, pPo s ≤ pPo (x s).1) (s : PST) : pPo s ≤ pPo (opP K op x s).1 := Nat.le_trans (hx s) (lpP_po hx 400 _)
theorem lkP_po {K : TKS} {w : Nat} {s : PST} : pPo s ≤ pPo (lkP K w s).1 := by
  show pPo s ≤ pPo (noP _ _ _ (tkP K 39 (stP _ _ (rpO _ _))))
  rw [noP_po]
  refine Nat.le_trans ?_ tkP_po.1
  rw [stP_po, rpO_po]
  exact tkP_po.1
theorem atP_po {K : TKS} {sub : Option (PST → PST × Nat)} (hs : ∀ f, sub = some f → ∀ s, pPo s ≤ pPo (f s).1) (s : PST) : pPo s ≤ pPo (atP K sub s).1 := by
  unfold atP
  split
  · cases sub with
    | none =>
      rename_i z
      exact absurd z.2 (by decide)
    | some f => exact Nat.le_trans (Nat.le_trans tkP_po.1 (hs f rfl _)) tkP_po.1
  · split
    · exact lkP_po
    · split
      · show pPo s ≤ pPo (noP _ _ _ (tkP K _ (stP _ _ s)))
        rw [noP_po]
        exact Nat.le_trans (Nat.le_of_eq stP_po.symm) tkP_po.1
      · show pPo s ≤ pPo (noP _ _ _ (tkP K _ (stP _ _ s)))
        rw [noP_po]
        exact Nat.le_trans (Nat.le_of_eq stP_po.symm) tkP_po.1
theorem smF_po {K : TKS} {sub : Option (PST → PST × Nat)} (hs : ∀ f, sub = some f → ∀ s, pPo s ≤ pPo (f s).1) (s : PST) : pPo s ≤ pPo (smF K sub s).1 := opP_po (fun s => opP_po (fun s => atP_po hs s) s) s
theorem smP_po {K : TKS} : ∀ (b : Nat) (s : PST), pPo s ≤ pPo (smP K b s).1
  | 0, s => smF_po (sub := none) (fun _ e => nomatch e) s
  | b + 1, s => smF_po (fun f e s => by
    cases e
    exact smP_po b s) s
theorem ntP_po {K : TKS} : ∀ (n : Nat) (s : PST), pPo s ≤ pPo (ntP K n s).1
  | 0, _ => Nat.le_refl _
  | n + 1, s => by
    unfold ntP
    split
    · exact Nat.le_trans tkP_po.1 (ntP_po n _)
    · exact Nat.le_refl _
theorem nnP_po : ∀ (n : Nat) (q : PST × Nat), pPo (nnP n q).1 = pPo q.1
  | 0, _ => rfl
  | n + 1, q => by
    show pPo (noP _ _ _ _) = _
    rw [noP_po]
    exact nnP_po n q
theorem siP_po {K : TKS} {kp : PST → PST × Nat} (hk : ∀ s, pPo s ≤ pPo (kp s).1) (s : PST) : pPo s ≤ pPo (siP K kp s).1 := by
  unfold siP
  rw [nnP_po]
  have := Nat.le_trans (ntP_po (K := K) 400 s) (hk _)
  show pPo s ≤ pPo (if _ then _ else _)
  split
  · rw [stP_po]
    exact this
  · exact this
theorem cmP_po {K : TKS} {sm : PST → PST × Nat} (hs : ∀ s, pPo s ≤ pPo (sm s).1) (s : PST) : pPo s ≤ pPo (cmP K sm s).1 := by
  show pPo s ≤ pPo (noP _ _ _ (stP _ _ _))
  rw [noP_po, stP_po]
  exact Nat.le_trans (Nat.le_trans (hs s) tkP_po.1) (hs _)
theorem kpP_po {K : TKS} {sub : Option (PST → PST × Nat)} {sm : PST → PST × Nat} (hs : ∀ f, sub = some f → ∀ s, pPo s ≤ pPo (f s).1) (hm : ∀ s, pPo s ≤ pPo (sm s).1) (s : PST) : pPo s ≤ pPo (kpP K sub sm s).1 := by
  unfold kpP
  split
  · cases sub with
    | none =>
      rename_i z
      exact absurd z.2 (by decide)
    | some f => exact Nat.le_trans (Nat.le_trans tkP_po.1 (hs f rfl _)) tkP_po.1
  · split
    · exact lkP_po
    · exact cmP_po hm s
theorem teF_po {K : TKS} {sub : Option (PST → PST × Nat)} {sm : PST → PST × Nat} (hs : ∀ f, sub = some f → ∀ s, pPo s ≤ pPo (f s).1) (hm : ∀ s, pPo s ≤ pPo (sm s).1) (s : PST) : pPo s ≤ pPo (teF K sub sm s).1 := opP_po (fun s => opP_po (fun s => siP_po (fun s => kpP_po hs hm s) s) s) s
theorem teP_po {K : TKS} : ∀ (b : Nat) (s : PST), pPo s ≤ pPo (teP K b s).1
  | 0, s => teF_po (sub := none) (fun _ e => nomatch e) (smP_po 0) s
  | b + 1, s => teF_po (fun f e s => by
    cases e
    exact teP_po b s) (smP_po (b + 1)) s
/-- nothing is read behind the wrong token -/
theorem at_w {K : TKS} {sub : Option (PST → PST × Nat)} {s : PST} (e : pEr s = 1) : (atP K sub s).1 = s := by
  have k : kdP K s = 42 := if_pos e
  have ne : ¬ pEr s = 0 := by omega
  unfold atP
  rw [if_neg (by omega), if_neg (by omega), if_neg (by omega)]
  show noP _ _ _ (tkP K 40 (stP _ _ s)) = s
  have e2 : stP 40 (vaP K s) s = s := upP_n ne
  rw [e2, tkP_1 e]
  exact upP_n ne
theorem lp_w {K : TKS} {op : Nat → Bool} (h42 : op 42 = false) {x : PST → PST × Nat} {q : PST × Nat} (e : pEr q.1 = 1) : ∀ n, lpP K op x n q = q
  | 0 => rfl
  | n + 1 => by
    unfold lpP
    rw [show kdP K q.1 = 42 from if_pos e, h42]
    rfl
theorem sm_w {K : TKS} : ∀ (b : Nat) {s : PST}, pEr s = 1 → (smP K b s).1 = s
  | b, s, e => by
    have go : ∀ sub, (smF K sub s).1 = s := fun sub => by
      have e1 : (pdP K sub s).1 = s := by
        unfold pdP opP
        rw [lp_w rfl (by rw [at_w e]; exact e), at_w e]
      unfold smF opP
      rw [lp_w rfl (by rw [e1]; exact e), e1]
    cases b with
    | zero => exact go none
    | succ b => exact go (some (smP K b))
section RMD
variable {G : GT} {d : Nat} {h0 h : AH} {m : Nat} {K : TKS} {T : List Nat} {L : Nat → Nat} {s : PST} {dp : Nat} {g : GCT} {no : Nat}
theorem RxM.last (rx : RxM h0 h m K T L s dp g no) (h4 : 400 ≤ pPo s) : ¬ kdP K s < 41 := fun z => by
  have h1 := (rx.nx z).1
  have h2 := rx.2.2.2.2.2.2.2.2.2.2.2.2.1.2.2.2.2.2.2.1
  omega

set_option maxHeartbeats 4000000 in
set_option maxRecDepth 100000 in
theorem s_mproduct_l {d2 : Nat} {x : PST → PST × Nat} (hm : ∀ s, pPo s ≤ pPo (x s).1) (hd : 4 ≤ d) (hx : ∀ h s no, RxM h0 h m K T L s dp g no → RQ G mX12_atom d2 0 [some (.ref m), none] [] h (Ri fun v h1 => ∃ n1, RxM h0 h1 m K T L (x s).1 dp g n1 ∧ (pEr (x s).1 = 0 → v = nI (x s).2) ∧ n1 + pPo s ≤ no + pPo (x s).1)) (hd2 : d2 + 1 ≤ d) (mono : ∀ s, pEr (x s).1 = 0 → pEr s = 0) : ∀ (n : Nat) (h : AH) (q : PST × Nat) (no : Nat) (x1 : Int32), 400 ≤ n + pPo q.1 → RxM h0 h m K T L q.1 dp g no → (pEr q.1 = 0 → x1 = nI q.2) → RQ G mX12_product d 5 [some (.ref m), some (.int x1)] [] h (Ri fun v h1 => ∃ n1, RxM h0 h1 m K T L (lpP K is38 x n q).1 dp g n1 ∧ (pEr (lpP K is38 x n q).1 = 0 → v = nI (lpP K is38 x n q).2) ∧ n1 + pPo q.1 ≤ no + pPo (lpP K is38 x n q).1) := by
  intro n
  induction n with
  | zero =>
    intro h q no x1 hi rx hx1
    obtain ⟨⟨th, by_, ea, a0⟩, -⟩ := id rx
    have nk := rx.last (by omega)
    refine tX12_product_5  (r := ?_)
    refine tX12_product_6  (r := ?_)
    refine tX12_product_8 (hd := (by omega)) (ha := (by first | assumption | (repeat (first | assumption | exact At.set_eq2 (by first | omega | (simp only [hset, hnew]; omega) | rfl | decide) | exact At.new_eq2 _ _ (by first | omega | (simp only [hset, hnew]; omega) | rfl | decide) | refine At.set_ne ?_ (by first | omega | (simp only [hset, hnew]; omega) | rfl | decide) | refine At.new_ne ?_)))) (call := s_mtakes (d := 2) (by omega) rx (k := 38) (by decide)) (k := ?_)
    rintro x_ h_ ⟨hx_, -, tn_⟩
    have e_ := tn_ (by omega)
    rw [e_, hx_, if_neg (by omega)]
    refine tX12_product_11  (kf := fun c_ => by exfalso; exact c_ rfl) (kt := fun _ => ?_)
    refine tX12_product_29  (r := ?_)
    refine tX12_product_30  (hP := ?_)
    exact ⟨_, rfl, _, rx, hx1, Nat.le_refl _⟩
  | succ n ih =>
    intro h q no x1 hi rx hx1
    obtain ⟨⟨th, by_, ea, a0⟩, -⟩ := id rx
    by_cases ek : kdP K q.1 = 38
    · have e : lpP K is38 x (n + 1) q = lpP K is38 x n (jnP 38 q.2 (x (tkP K 38 q.1)).2 (x (tkP K 38 q.1)).1) := by
        have e9 : lpP K is38 x (n + 1) q = lpP K is38 x n (jnP (kdP K q.1) q.2 (x (tkP K (kdP K q.1) q.1)).2 (x (tkP K (kdP K q.1) q.1)).1) := if_pos (by rw [ek]; rfl)
        rw [e9, ek]
      rw [e]
      obtain ⟨et, e1⟩ := tkP_y (K := K) (s := q.1) ek (by decide)
      have ex : pEr (x (tkP K 38 q.1)).1 = 0 → pEr q.1 = 0 := fun z => (tkP_er (mono _ z)).1
      refine tX12_product_5  (r := ?_)
      refine tX12_product_6  (r := ?_)
      refine tX12_product_8 (hd := (by omega)) (ha := (by first | assumption | (repeat (first | assumption | exact At.set_eq2 (by first | omega | (simp only [hset, hnew]; omega) | rfl | decide) | exact At.new_eq2 _ _ (by first | omega | (simp only [hset, hnew]; omega) | rfl | decide) | refine At.set_ne ?_ (by first | omega | (simp only [hset, hnew]; omega) | rfl | decide) | refine At.new_ne ?_)))) (call := s_mtakes (d := 2) (by omega) rx (k := 38) (by decide)) (k := ?_)
      rintro x_ h1 ⟨hx_, ty_, -⟩
      have rx1 := ty_ ek
      rw [hx_, if_pos ek]
      obtain ⟨⟨th1, by1, ea1, p1⟩, -⟩ := id rx1
      refine tX12_product_11  (kt := fun c_ => by exfalso; exact absurd c_ (by decide)) (kf := fun _ => ?_)
      refine tX12_product_14  (r := ?_)
      refine tX12_product_15  (r := ?_)
      refine tX12_product_17  (r := ?_)
      refine tX12_product_18  (r := ?_)
      refine tX12_product_19 (hd := (by omega)) (ha := (by first | assumption | (repeat (first | assumption | exact At.set_eq2 (by first | omega | (simp only [hset, hnew]; omega) | rfl | decide) | exact At.new_eq2 _ _ (by first | omega | (simp only [hset, hnew]; omega) | rfl | decide) | refine At.set_ne ?_ (by first | omega | (simp only [hset, hnew]; omega) | rfl | decide) | refine At.new_ne ?_)))) (call := hx _ _ _ rx1) (k := ?_)
      rintro v2 h2 ⟨n2, rx2, hv2, hb2⟩
      obtain ⟨⟨th2, by2, ea2, p2⟩, -⟩ := id rx2
      have b2_ := rx.2.2.2.2.2.2.1
      have pp : pPo (tkP K 38 q.1) = pPo q.1 + 1 := by rw [et]
      have mm := hm (tkP K 38 q.1)
      refine tX12_product_22 (hd := (by omega)) (ha := (by first | assumption | (repeat (first | assumption | exact At.set_eq2 (by first | omega | (simp only [hset, hnew]; omega) | rfl | decide) | exact At.new_eq2 _ _ (by first | omega | (simp only [hset, hnew]; omega) | rfl | decide) | refine At.set_ne ?_ (by first | omega | (simp only [hset, hnew]; omega) | rfl | decide) | refine At.new_ne ?_)))) (call := s_mnode (d := 3) rx2 (by omega) (so := soK 38) (lN := q.2) (rN := (x (tkP K 38 q.1)).2) (fun _ => rfl) (fun z => hx1 (ex z)) hv2) (k := ?_)
      rintro v3 h3 ⟨hv3, rx3⟩
      refine tX12_product_25  (r := ?_)
      refine tX12_product_26 (r := ?_)
      have EQ : Eqv (noP (soK 38) q.2 (x (tkP K 38 q.1)).2 (x (tkP K 38 q.1)).1) (jnP 38 q.2 (x (tkP K 38 q.1)).2 (x (tkP K 38 q.1)).1).1 := Eqv.no (Eqv.st _).symm
      have pq : pPo (jnP 38 q.2 (x (tkP K 38 q.1)).2 (x (tkP K 38 q.1)).1).1 = pPo (x (tkP K 38 q.1)).1 := by
        rw [← EQ.1, noP_po]
      have key := ih h3 (jnP 38 q.2 (x (tkP K 38 q.1)).2 (x (tkP K 38 q.1)).1) _ v3 (by omega) (rx3.eqv EQ) (fun z => hv3 (by
        have z2 := EQ.2.1.trans z
        rw [noP_er] at z2
        exact z2))
      refine key.imp (fun o9 h9 q9 => ?_)
      obtain ⟨v9, e9, n9, r9, i9, b9⟩ := q9
      refine ⟨v9, e9, n9, r9, i9, ?_⟩
      omega
    · have e : lpP K is38 x (n + 1) q = q := if_neg (fun z => ek (by simp only [is38, beq_iff_eq] at z; exact z))
      rw [e]
      refine tX12_product_5  (r := ?_)
      refine tX12_product_6  (r := ?_)
      refine tX12_product_8 (hd := (by omega)) (ha := (by first | assumption | (repeat (first | assumption | exact At.set_eq2 (by first | omega | (simp only [hset, hnew]; omega) | rfl | decide) | exact At.new_eq2 _ _ (by first | omega | (simp only [hset, hnew]; omega) | rfl | decide) | refine At.set_ne ?_ (by first | omega | (simp only [hset, hnew]; omega) | rfl | decide) | refine At.new_ne ?_)))) (call := s_mtakes (d := 2) (by omega) rx (k := 38) (by decide)) (k := ?_)
      rintro x_ h_ ⟨hx_, -, tn_⟩
      have e_ := tn_ (by omega)
      rw [e_, hx_, if_neg (by omega)]
      refine tX12_product_11  (kf := fun c_ => by exfalso; exact c_ rfl) (kt := fun _ => ?_)
      refine tX12_product_29  (r := ?_)
      refine tX12_product_30  (hP := ?_)
      exact ⟨_, rfl, _, rx, hx1, Nat.le_refl _⟩

set_option maxHeartbeats 4000000 in
set_option maxRecDepth 100000 in
theorem s_mproduct {d2 : Nat} {x : PST → PST × Nat} (hm : ∀ s, pPo s ≤ pPo (x s).1) (hd : 4 ≤ d) (hx : ∀ h s no, RxM h0 h m K T L s dp g no → RQ G mX12_atom d2 0 [some (.ref m), none] [] h (Ri fun v h1 => ∃ n1, RxM h0 h1 m K T L (x s).1 dp g n1 ∧ (pEr (x s).1 = 0 → v = nI (x s).2) ∧ n1 + pPo s ≤ no + pPo (x s).1)) (hd2 : d2 + 1 ≤ d) (mono : ∀ s, pEr (x s).1 = 0 → pEr s = 0) (rx : RxM h0 h m K T L s dp g no) : RQ G mX12_product d 0 [some (.ref m), none] [] h (Ri fun v h1 => ∃ n1, RxM h0 h1 m K T L (opP K is38 x s).1 dp g n1 ∧ (pEr (opP K is38 x s).1 = 0 → v = nI (opP K is38 x s).2) ∧ n1 + pPo s ≤ no + pPo (opP K is38 x s).1) := by
  obtain ⟨⟨th, by_, ea, a0⟩, -⟩ := id rx
  have mm := hm s
  refine tX12_product_0  (r := ?_)
  refine tX12_product_1 (hd := (by omega)) (ha := (by first | assumption | (repeat (first | assumption | exact At.set_eq2 (by first | omega | (simp only [hset, hnew]; omega) | rfl | decide) | exact At.new_eq2 _ _ (by first | omega | (simp only [hset, hnew]; omega) | rfl | decide) | refine At.set_ne ?_ (by first | omega | (simp only [hset, hnew]; omega) | rfl | decide) | refine At.new_ne ?_)))) (call := hx _ _ _ rx) (k := ?_)
  rintro v2 h2 ⟨n2, rx2, hv2, hb2⟩
  refine tX12_product_4  (r := ?_)
  have key := s_mproduct_l hm hd hx hd2 mono 400 h2 (x s) _ v2 (by omega) rx2 hv2
  refine key.imp (fun o9 h9 q9 => ?_)
  obtain ⟨v9, e9, n9, r9, i9, b9⟩ := q9
  refine ⟨v9, e9, n9, r9, i9, ?_⟩
  show n9 + pPo s ≤ no + pPo (lpP K is38 x 400 (x s)).1
  omega

set_option maxHeartbeats 4000000 in
set_option maxRecDepth 100000 in
theorem s_mboth_l {d2 P0 : Nat} {x : PST → PST × Nat} (hm : ∀ s, pPo s ≤ pPo (x s).1) (hd : 4 ≤ d) (hx : ∀ h s no, RxM h0 h m K T L s dp g no → P0 ≤ pPo s → RQ G mX12_single d2 0 [some (.ref m), none, none] [] h (Ri fun v h1 => ∃ n1, RxM h0 h1 m K T L (x s).1 dp g n1 ∧ (pEr (x s).1 = 0 → v = nI (x s).2) ∧ n1 + pPo s ≤ no + pPo (x s).1)) (hd2 : d2 + 1 ≤ d) (mono : ∀ s, pEr (x s).1 = 0 → pEr s = 0) : ∀ (n : Nat) (h : AH) (q : PST × Nat) (no : Nat) (x1 : Int32), 400 ≤ n + pPo q.1 → P0 ≤ pPo q.1 → RxM h0 h m K T L q.1 dp g no → (pEr q.1 = 0 → x1 = nI q.2) → RQ G mX12_both d 5 [some (.ref m), some (.int x1)] [] h (Ri fun v h1 => ∃ n1, RxM h0 h1 m K T L (lpP K is16 x n q).1 dp g n1 ∧ (pEr (lpP K is16 x n q).1 = 0 → v = nI (lpP K is16 x n q).2) ∧ n1 + pPo q.1 ≤ no + pPo (lpP K is16 x n q).1) := by
  intro n
  induction n with
  | zero =>
    intro h q no x1 hi hp0 rx hx1
    obtain ⟨⟨th, by_, ea, a0⟩, -⟩ := id rx
    have nk := rx.last (by omega)
    refine tX12_both_5  (r := ?_)
    refine tX12_both_6  (r := ?_)
    refine tX12_both_8 (hd := (by omega)) (ha := (by first | assumption | (repeat (first | assumption | exact At.set_eq2 (by first | omega | (simp only [hset, hnew]; omega) | rfl | decide) | exact At.new_eq2 _ _ (by first | omega | (simp only [hset, hnew]; omega) | rfl | decide) | refine At.set_ne ?_ (by first | omega | (simp only [hset, hnew]; omega) | rfl | decide) | refine At.new_ne ?_)))) (call := s_mtakes (d := 2) (by omega) rx (k := 16) (by decide)) (k := ?_)
    rintro x_ h_ ⟨hx_, -, tn_⟩
    have e_ := tn_ (by omega)
    rw [e_, hx_, if_neg (by omega)]
    refine tX12_both_11  (kf := fun c_ => by exfalso; exact c_ rfl) (kt := fun _ => ?_)
    refine tX12_both_29  (r := ?_)
    refine tX12_both_30  (hP := ?_)
    exact ⟨_, rfl, _, rx, hx1, Nat.le_refl _⟩
  | succ n ih =>
    intro h q no x1 hi hp0 rx hx1
    obtain ⟨⟨th, by_, ea, a0⟩, -⟩ := id rx
    by_cases ek : kdP K q.1 = 16
    · have e : lpP K is16 x (n + 1) q = lpP K is16 x n (jnP 16 q.2 (x (tkP K 16 q.1)).2 (x (tkP K 16 q.1)).1) := by
        have e9 : lpP K is16 x (n + 1) q = lpP K is16 x n (jnP (kdP K q.1) q.2 (x (tkP K (kdP K q.1) q.1)).2 (x (tkP K (kdP K q.1) q.1)).1) := if_pos (by rw [ek]; rfl)
        rw [e9, ek]
      rw [e]
      obtain ⟨et, e1⟩ := tkP_y (K := K) (s := q.1) ek (by decide)
      have ex : pEr (x (tkP K 16 q.1)).1 = 0 → pEr q.1 = 0 := fun z => (tkP_er (mono _ z)).1
      refine tX12_both_5  (r := ?_)
      refine tX12_both_6  (r := ?_)
      refine tX12_both_8 (hd := (by omega)) (ha := (by first | assumption | (repeat (first | assumption | exact At.set_eq2 (by first | omega | (simp only [hset, hnew]; omega) | rfl | decide) | exact At.new_eq2 _ _ (by first | omega | (simp only [hset, hnew]; omega) | rfl | decide) | refine At.set_ne ?_ (by first | omega | (simp only [hset, hnew]; omega) | rfl | decide) | refine At.new_ne ?_)))) (call := s_mtakes (d := 2) (by omega) rx (k := 16) (by decide)) (k := ?_)
      rintro x_ h1 ⟨hx_, ty_, -⟩
      have rx1 := ty_ ek
      rw [hx_, if_pos ek]
      obtain ⟨⟨th1, by1, ea1, p1⟩, -⟩ := id rx1
      refine tX12_both_11  (kt := fun c_ => by exfalso; exact absurd c_ (by decide)) (kf := fun _ => ?_)
      refine tX12_both_14  (r := ?_)
      refine tX12_both_15  (r := ?_)
      refine tX12_both_17  (r := ?_)
      refine tX12_both_18  (r := ?_)
      refine tX12_both_19 (hd := (by omega)) (ha := (by first | assumption | (repeat (first | assumption | exact At.set_eq2 (by first | omega | (simp only [hset, hnew]; omega) | rfl | decide) | exact At.new_eq2 _ _ (by first | omega | (simp only [hset, hnew]; omega) | rfl | decide) | refine At.set_ne ?_ (by first | omega | (simp only [hset, hnew]; omega) | rfl | decide) | refine At.new_ne ?_)))) (call := hx _ _ _ rx1 (by rw [et]; show P0 ≤ pPo q.1 + 1; omega)) (k := ?_)
      rintro v2 h2 ⟨n2, rx2, hv2, hb2⟩
      obtain ⟨⟨th2, by2, ea2, p2⟩, -⟩ := id rx2
      have b2_ := rx.2.2.2.2.2.2.1
      have pp : pPo (tkP K 16 q.1) = pPo q.1 + 1 := by rw [et]
      have mm := hm (tkP K 16 q.1)
      refine tX12_both_22 (hd := (by omega)) (ha := (by first | assumption | (repeat (first | assumption | exact At.set_eq2 (by first | omega | (simp only [hset, hnew]; omega) | rfl | decide) | exact At.new_eq2 _ _ (by first | omega | (simp only [hset, hnew]; omega) | rfl | decide) | refine At.set_ne ?_ (by first | omega | (simp only [hset, hnew]; omega) | rfl | decide) | refine At.new_ne ?_)))) (call := s_mnode (d := 3) rx2 (by omega) (so := soK 16) (lN := q.2) (rN := (x (tkP K 16 q.1)).2) (fun _ => rfl) (fun z => hx1 (ex z)) hv2) (k := ?_)
      rintro v3 h3 ⟨hv3, rx3⟩
      refine tX12_both_25  (r := ?_)
      refine tX12_both_26 (r := ?_)
      have EQ : Eqv (noP (soK 16) q.2 (x (tkP K 16 q.1)).2 (x (tkP K 16 q.1)).1) (jnP 16 q.2 (x (tkP K 16 q.1)).2 (x (tkP K 16 q.1)).1).1 := Eqv.no (Eqv.st _).symm
      have pq : pPo (jnP 16 q.2 (x (tkP K 16 q.1)).2 (x (tkP K 16 q.1)).1).1 = pPo (x (tkP K 16 q.1)).1 := by
        rw [← EQ.1, noP_po]
      have key := ih h3 (jnP 16 q.2 (x (tkP K 16 q.1)).2 (x (tkP K 16 q.1)).1) _ v3 (by omega) (by omega) (rx3.eqv EQ) (fun z => hv3 (by
        have z2 := EQ.2.1.trans z
        rw [noP_er] at z2
        exact z2))
      refine key.imp (fun o9 h9 q9 => ?_)
      obtain ⟨v9, e9, n9, r9, i9, b9⟩ := q9
      refine ⟨v9, e9, n9, r9, i9, ?_⟩
      omega
    · have e : lpP K is16 x (n + 1) q = q := if_neg (fun z => ek (by simp only [is16, beq_iff_eq] at z; exact z))
      rw [e]
      refine tX12_both_5  (r := ?_)
      refine tX12_both_6  (r := ?_)
      refine tX12_both_8 (hd := (by omega)) (ha := (by first | assumption | (repeat (first | assumption | exact At.set_eq2 (by first | omega | (simp only [hset, hnew]; omega) | rfl | decide) | exact At.new_eq2 _ _ (by first | omega | (simp only [hset, hnew]; omega) | rfl | decide) | refine At.set_ne ?_ (by first | omega | (simp only [hset, hnew]; omega) | rfl | decide) | refine At.new_ne ?_)))) (call := s_mtakes (d := 2) (by omega) rx (k := 16) (by decide)) (k := ?_)
      rintro x_ h_ ⟨hx_, -, tn_⟩
      have e_ := tn_ (by omega)
      rw [e_, hx_, if_neg (by omega)]
      refine tX12_both_11  (kf := fun c_ => by exfalso; exact c_ rfl) (kt := fun _ => ?_)
      refine tX12_both_29  (r := ?_)
      refine tX12_both_30  (hP := ?_)
      exact ⟨_, rfl, _, rx, hx1, Nat.le_refl _⟩

set_option maxHeartbeats 4000000 in
set_option maxRecDepth 100000 in
theorem s_mboth {d2 P0 : Nat} {x : PST → PST × Nat} (hm : ∀ s, pPo s ≤ pPo (x s).1) (hd : 4 ≤ d) (hx : ∀ h s no, RxM h0 h m K T L s dp g no → P0 ≤ pPo s → RQ G mX12_single d2 0 [some (.ref m), none, none] [] h (Ri fun v h1 => ∃ n1, RxM h0 h1 m K T L (x s).1 dp g n1 ∧ (pEr (x s).1 = 0 → v = nI (x s).2) ∧ n1 + pPo s ≤ no + pPo (x s).1)) (hd2 : d2 + 1 ≤ d) (mono : ∀ s, pEr (x s).1 = 0 → pEr s = 0) (rx : RxM h0 h m K T L s dp g no) (hp0 : P0 ≤ pPo s) : RQ G mX12_both d 0 [some (.ref m), none] [] h (Ri fun v h1 => ∃ n1, RxM h0 h1 m K T L (opP K is16 x s).1 dp g n1 ∧ (pEr (opP K is16 x s).1 = 0 → v = nI (opP K is16 x s).2) ∧ n1 + pPo s ≤ no + pPo (opP K is16 x s).1) := by
  obtain ⟨⟨th, by_, ea, a0⟩, -⟩ := id rx
  have mm := hm s
  refine tX12_both_0  (r := ?_)
  refine tX12_both_1 (hd := (by omega)) (ha := (by first | assumption | (repeat (first | assumption | exact At.set_eq2 (by first | omega | (simp only [hset, hnew]; omega) | rfl | decide) | exact At.new_eq2 _ _ (by first | omega | (simp only [hset, hnew]; omega) | rfl | decide) | refine At.set_ne ?_ (by first | omega | (simp only [hset, hnew]; omega) | rfl | decide) | refine At.new_ne ?_)))) (call := hx _ _ _ rx hp0) (k := ?_)
  rintro v2 h2 ⟨n2, rx2, hv2, hb2⟩
  refine tX12_both_4  (r := ?_)
  have key := s_mboth_l hm hd hx hd2 mono 400 h2 (x s) _ v2 (by omega) (by omega) rx2 hv2
  refine key.imp (fun o9 h9 q9 => ?_)
  obtain ⟨v9, e9, n9, r9, i9, b9⟩ := q9
  refine ⟨v9, e9, n9, r9, i9, ?_⟩
  show n9 + pPo s ≤ no + pPo (lpP K is16 x 400 (x s)).1
  omega

set_option maxHeartbeats 4000000 in
set_option maxRecDepth 100000 in
theorem s_mtest_l {d2 P0 : Nat} {x : PST → PST × Nat} (hm : ∀ s, pPo s ≤ pPo (x s).1) (hd : 4 ≤ d) (hx : ∀ h s no, RxM h0 h m K T L s dp g no → P0 ≤ pPo s → RQ G mX12_both d2 0 [some (.ref m), none] [] h (Ri fun v h1 => ∃ n1, RxM h0 h1 m K T L (x s).1 dp g n1 ∧ (pEr (x s).1 = 0 → v = nI (x s).2) ∧ n1 + pPo s ≤ no + pPo (x s).1)) (hd2 : d2 + 1 ≤ d) (mono : ∀ s, pEr (x s).1 = 0 → pEr s = 0) : ∀ (n : Nat) (h : AH) (q : PST × Nat) (no : Nat) (x1 : Int32), 400 ≤ n + pPo q.1 → P0 ≤ pPo q.1 → RxM h0 h m K T L q.1 dp g no → (pEr q.1 = 0 → x1 = nI q.2) → RQ G mX12_test d 5 [some (.ref m), some (.int x1)] [] h (Ri fun v h1 => ∃ n1, RxM h0 h1 m K T L (lpP K is17 x n q).1 dp g n1 ∧ (pEr (lpP K is17 x n q).1 = 0 → v = nI (lpP K is17 x n q).2) ∧ n1 + pPo q.1 ≤ no + pPo (lpP K is17 x n q).1) := by
  intro n
  induction n with
  | zero =>
    intro h q no x1 hi hp0 rx hx1
    obtain ⟨⟨th, by_, ea, a0⟩, -⟩ := id rx
    have nk := rx.last (by omega)
    refine tX12_test_5  (r := ?_)
    refine tX12_test_6  (r := ?_)
    refine tX12_test_8 (hd := (by omega)) (ha := (by first | assumption | (repeat (first | assumption | exact At.set_eq2 (by first | omega | (simp only [hset, hnew]; omega) | rfl | decide) | exact At.new_eq2 _ _ (by first | omega | (simp only [hset, hnew]; omega) | rfl | decide) | refine At.set_ne ?_ (by first | omega | (simp only [hset, hnew]; omega) | rfl | decide) | refine At.new_ne ?_)))) (call := s_mtakes (d := 2) (by omega) rx (k := 17) (by decide)) (k := ?_)
    rintro x_ h_ ⟨hx_, -, tn_⟩
    have e_ := tn_ (by omega)
    rw [e_, hx_, if_neg (by omega)]
    refine tX12_test_11  (kf := fun c_ => by exfalso; exact c_ rfl) (kt := fun _ => ?_)
    refine tX12_test_29  (r := ?_)
    refine tX12_test_30  (hP := ?_)
    exact ⟨_, rfl, _, rx, hx1, Nat.le_refl _⟩
  | succ n ih =>
    intro h q no x1 hi hp0 rx hx1
    obtain ⟨⟨th, by_, ea, a0⟩, -⟩ := id rx
    by_cases ek : kdP K q.1 = 17
    · have e : lpP K is17 x (n + 1) q = lpP K is17 x n (jnP 17 q.2 (x (tkP K 17 q.1)).2 (x (tkP K 17 q.1)).1) := by
        have e9 : lpP K is17 x (n + 1) q = lpP K is17 x n (jnP (kdP K q.1) q.2 (x (tkP K (kdP K q.1) q.1)).2 (x (tkP K (kdP K q.1) q.1)).1) := if_pos (by rw [ek]; rfl)
        rw [e9, ek]
      rw [e]
      obtain ⟨et, e1⟩ := tkP_y (K := K) (s := q.1) ek (by decide)
      have ex : pEr (x (tkP K 17 q.1)).1 = 0 → pEr q.1 = 0 := fun z => (tkP_er (mono _ z)).1
      refine tX12_test_5  (r := ?_)
      refine tX12_test_6  (r := ?_)
      refine tX12_test_8 (hd := (by omega)) (ha := (by first | assumption | (repeat (first | assumption | exact At.set_eq2 (by first | omega | (simp only [hset, hnew]; omega) | rfl | decide) | exact At.new_eq2 _ _ (by first | omega | (simp only [hset, hnew]; omega) | rfl | decide) | refine At.set_ne ?_ (by first | omega | (simp only [hset, hnew]; omega) | rfl | decide) | refine At.new_ne ?_)))) (call := s_mtakes (d := 2) (by omega) rx (k := 17) (by decide)) (k := ?_)
      rintro x_ h1 ⟨hx_, ty_, -⟩
      have rx1 := ty_ ek
      rw [hx_, if_pos ek]
      obtain ⟨⟨th1, by1, ea1, p1⟩, -⟩ := id rx1
      refine tX12_test_11  (kt := fun c_ => by exfalso; exact absurd c_ (by decide)) (kf := fun _ => ?_)
      refine tX12_test_14  (r := ?_)
      refine tX12_test_15  (r := ?_)
      refine tX12_test_17  (r := ?_)
      refine tX12_test_18  (r := ?_)
      refine tX12_test_19 (hd := (by omega)) (ha := (by first | assumption | (repeat (first | assumption | exact At.set_eq2 (by first | omega | (simp only [hset, hnew]; omega) | rfl | decide) | exact At.new_eq2 _ _ (by first | omega | (simp only [hset, hnew]; omega) | rfl | decide) | refine At.set_ne ?_ (by first | omega | (simp only [hset, hnew]; omega) | rfl | decide) | refine At.new_ne ?_)))) (call := hx _ _ _ rx1 (by rw [et]; show P0 ≤ pPo q.1 + 1; omega)) (k := ?_)
      rintro v2 h2 ⟨n2, rx2, hv2, hb2⟩
      obtain ⟨⟨th2, by2, ea2, p2⟩, -⟩ := id rx2
      have b2_ := rx.2.2.2.2.2.2.1
      have pp : pPo (tkP K 17 q.1) = pPo q.1 + 1 := by rw [et]
      have mm := hm (tkP K 17 q.1)
      refine tX12_test_22 (hd := (by omega)) (ha := (by first | assumption | (repeat (first | assumption | exact At.set_eq2 (by first | omega | (simp only [hset, hnew]; omega) | rfl | decide) | exact At.new_eq2 _ _ (by first | omega | (simp only [hset, hnew]; omega) | rfl | decide) | refine At.set_ne ?_ (by first | omega | (simp only [hset, hnew]; omega) | rfl | decide) | refine At.new_ne ?_)))) (call := s_mnode (d := 3) rx2 (by omega) (so := soK 17) (lN := q.2) (rN := (x (tkP K 17 q.1)).2) (fun _ => rfl) (fun z => hx1 (ex z)) hv2) (k := ?_)
      rintro v3 h3 ⟨hv3, rx3⟩
      refine tX12_test_25  (r := ?_)
      refine tX12_test_26 (r := ?_)
      have EQ : Eqv (noP (soK 17) q.2 (x (tkP K 17 q.1)).2 (x (tkP K 17 q.1)).1) (jnP 17 q.2 (x (tkP K 17 q.1)).2 (x (tkP K 17 q.1)).1).1 := Eqv.no (Eqv.st _).symm
      have pq : pPo (jnP 17 q.2 (x (tkP K 17 q.1)).2 (x (tkP K 17 q.1)).1).1 = pPo (x (tkP K 17 q.1)).1 := by
        rw [← EQ.1, noP_po]
      have key := ih h3 (jnP 17 q.2 (x (tkP K 17 q.1)).2 (x (tkP K 17 q.1)).1) _ v3 (by omega) (by omega) (rx3.eqv EQ) (fun z => hv3 (by
        have z2 := EQ.2.1.trans z
        rw [noP_er] at z2
        exact z2))
      refine key.imp (fun o9 h9 q9 => ?_)
      obtain ⟨v9, e9, n9, r9, i9, b9⟩ := q9
      refine ⟨v9, e9, n9, r9, i9, ?_⟩
      omega
    · have e : lpP K is17 x (n + 1) q = q := if_neg (fun z => ek (by simp only [is17, beq_iff_eq] at z; exact z))
      rw [e]
      refine tX12_test_5  (r := ?_)
      refine tX12_test_6  (r := ?_)
      refine tX12_test_8 (hd := (by omega)) (ha := (by first | assumption | (repeat (first | assumption | exact At.set_eq2 (by first | omega | (simp only [hset, hnew]; omega) | rfl | decide) | exact At.new_eq2 _ _ (by first | omega | (simp only [hset, hnew]; omega) | rfl | decide) | refine At.set_ne ?_ (by first | omega | (simp only [hset, hnew]; omega) | rfl | decide) | refine At.new_ne ?_)))) (call := s_mtakes (d := 2) (by omega) rx (k := 17) (by decide)) (k := ?_)
      rintro x_ h_ ⟨hx_, -, tn_⟩
      have e_ := tn_ (by omega)
      rw [e_, hx_, if_neg (by omega)]
      refine tX12_test_11  (kf := fun c_ => by exfalso; exact c_ rfl) (kt := fun _ => ?_)
      refine tX12_test_29  (r := ?_)
      refine tX12_test_30  (hP := ?_)
      exact ⟨_, rfl, _, rx, hx1, Nat.le_refl _⟩

set_option maxHeartbeats 4000000 in
set_option maxRecDepth 100000 in
theorem s_mtest {d2 P0 : Nat} {x : PST → PST × Nat} (hm : ∀ s, pPo s ≤ pPo (x s).1) (hd : 4 ≤ d) (hx : ∀ h s no, RxM h0 h m K T L s dp g no → P0 ≤ pPo s → RQ G mX12_both d2 0 [some (.ref m), none] [] h (Ri fun v h1 => ∃ n1, RxM h0 h1 m K T L (x s).1 dp g n1 ∧ (pEr (x s).1 = 0 → v = nI (x s).2) ∧ n1 + pPo s ≤ no + pPo (x s).1)) (hd2 : d2 + 1 ≤ d) (mono : ∀ s, pEr (x s).1 = 0 → pEr s = 0) (rx : RxM h0 h m K T L s dp g no) (hp0 : P0 ≤ pPo s) : RQ G mX12_test d 0 [some (.ref m), none] [] h (Ri fun v h1 => ∃ n1, RxM h0 h1 m K T L (opP K is17 x s).1 dp g n1 ∧ (pEr (opP K is17 x s).1 = 0 → v = nI (opP K is17 x s).2) ∧ n1 + pPo s ≤ no + pPo (opP K is17 x s).1) := by
  obtain ⟨⟨th, by_, ea, a0⟩, -⟩ := id rx
  have mm := hm s
  refine tX12_test_0  (r := ?_)
  refine tX12_test_1 (hd := (by omega)) (ha := (by first | assumption | (repeat (first | assumption | exact At.set_eq2 (by first | omega | (simp only [hset, hnew]; omega) | rfl | decide) | exact At.new_eq2 _ _ (by first | omega | (simp only [hset, hnew]; omega) | rfl | decide) | refine At.set_ne ?_ (by first | omega | (simp only [hset, hnew]; omega) | rfl | decide) | refine At.new_ne ?_)))) (call := hx _ _ _ rx hp0) (k := ?_)
  rintro v2 h2 ⟨n2, rx2, hv2, hb2⟩
  refine tX12_test_4  (r := ?_)
  have key := s_mtest_l hm hd hx hd2 mono 400 h2 (x s) _ v2 (by omega) (by omega) rx2 hv2
  refine key.imp (fun o9 h9 q9 => ?_)
  obtain ⟨v9, e9, n9, r9, i9, b9⟩ := q9
  refine ⟨v9, e9, n9, r9, i9, ?_⟩
  show n9 + pPo s ≤ no + pPo (lpP K is17 x 400 (x s)).1
  omega

end RMD
