/-! the reference reads all tokens: one of them -/
def KmM (h : AH) (m : Nat) (T : List Nat) (k : Nat) : Prop := (∃ f : Nat → Int32, At h (m + 2) (.inl (0, 402, .inl f)) ∧ ∀ j, j < k → f j = nI (soK (kkT T j))) ∧ (∃ f : Nat → Int32, At h (m + 3) (.inl (0, 402, .inl f)) ∧ ∀ j, j < k → kkT T j = 40 → f j = nI (vvK T j)) ∧ (∃ f : Nat → Int32, At h (m + 4) (.inl (0, 402, .inl f)) ∧ ∀ j, j < k → f j = nI (stT T j)) ∧ ∃ f : Nat → Int32, At h (m + 5) (.inl (0, 402, .inl f)) ∧ ∀ j, j < k → kkT T j = 39 → f j = nI (lnK T j)
theorem TpM.sm {h h1 : AH} {m lo hi : Nat} {T : List Nat} (q : TpM h m T) (sm : Sm h h1 lo hi) (e : m + 2 ≤ lo) : TpM h1 m T := by
  obtain ⟨⟨th, ea, tk, iw, er, et, dp, nm, a0⟩, ⟨f, a1, hf⟩, l, hT⟩ := q
  exact ⟨⟨th, ea, tk, iw, er, et, dp, nm, sm.at a0 (by omega)⟩, ⟨f, sm.at a1 (by omega), hf⟩, l, hT⟩
theorem vv_dig {T : List Nat} {k : Nat} (a : kkT T k = 40) : vvK T k = vdT T (stT T k) (enT T (stT T k) - stT T k) := by
  unfold vvK vaT
  rw [if_neg (by omega), if_pos a]
  rfl
theorem ki_n41 {T : List Nat} {p e : Nat} (lt : p < T.length) (hp : p < e) : kiT T p e ≠ 41 := by
  unfold kiT
  rw [if_neg (by omega)]
  cases ef : fnN (wdT T p e) 1 43 with
  | some k =>
    obtain ⟨f1, f2, -⟩ := fnN_some ef
    intro z
    have z : k = 41 := z
    rw [z] at f2
    exact (wd_by f2 hp).1 (by decide +kernel)
  | none =>
    show (if ltT T p = true ∧ e - p ≤ 8 then 39 else if dgT T p = true ∧ e - p ≤ 4 then 40 else 42) ≠ 41
    split
    · decide
    · split <;> decide
section RTH
variable {G : GT} {d : Nat} {h : AH} {m : Nat} {T : List Nat} {P : OC → AH → Prop}

set_option maxHeartbeats 4000000 in
set_option maxRecDepth 100000 in
theorem s_mra33 (hd : 10 ≤ d) (tp : TpM h m T) {k : Nat} (km : KmM h m T k) (hk : k ≤ 400) (lt : stT T k < T.length) (kk : ∀ h1, TpM h1 m T → KmM h1 m T (k + 1) → Sm h h1 (m + 2) (m + 6) → RQ G mX12_readAll d 8 [some (.ref m), some (.int (nI (stT T (k + 1)))), some (.int (nI (k + 1)))] [] h1 P) : RQ G mX12_readAll d 33 [some (.ref m), some (.int (nI (stT T k))), some (.int (nI k))] [] h P := by
  obtain ⟨⟨th, ea, tk, iw, er, et, dp, nm, a0⟩, ⟨f, a1, hf⟩, l16, hT⟩ := id tp
  obtain ⟨⟨f2, a2, c2⟩, ⟨f3, a3, c3⟩, ⟨f4, a4, c4⟩, f5, a5, c5⟩ := km
  have z5 := a5.1
  have er := (en_rng (T := T) (p := stT T k)).2.1 lt
  refine tX12_readAll_33  (r := ?_)
  refine tX12_readAll_34  (r := ?_)
  refine tX12_readAll_35  (r := ?_)
  refine tX12_readAll_36  (r := ?_)
  refine tX12_readAll_37 (hd := (by omega)) (ha := (by first | assumption | (repeat (first | assumption | exact At.set_eq2 (by first | omega | (simp only [hset, hnew]; omega) | rfl | decide) | exact At.new_eq2 _ _ (by first | omega | (simp only [hset, hnew]; omega) | rfl | decide) | refine At.set_ne ?_ (by first | omega | (simp only [hset, hnew]; omega) | rfl | decide) | refine At.new_ne ?_)))) (call := s_mread (d := 9) (by decide) tp (p := stT T k) (k := k) lt (by omega) a2 a3 a4 a5) (k := ?_)
  rintro x_ h_ ⟨hx_, r2, ⟨g, r3, r3a, r3b⟩, r4, r5, rs⟩
  rw [hx_]
  have tp2 := tp.sm rs (by omega)
  have a0b := rs.at a0 (by omega)
  have z5b := r5.1
  refine tX12_readAll_40 (hd := (by omega)) (ha := (by first | assumption | (repeat (first | assumption | exact At.set_eq2 (by first | omega | (simp only [hset, hnew]; omega) | rfl | decide) | exact At.new_eq2 _ _ (by first | omega | (simp only [hset, hnew]; omega) | rfl | decide) | refine At.set_ne ?_ (by first | omega | (simp only [hset, hnew]; omega) | rfl | decide) | refine At.new_ne ?_)))) (call := s_mskip (d := 1) (by decide) tp2 (p := enT T (stT T k)) (by omega)) (k := ?_)
  rintro x_ h2_ ⟨hx_, e_⟩
  rw [e_, hx_]
  refine tX12_readAll_43  (r := ?_)
  refine tX12_readAll_44  (r := ?_)
  refine tX12_readAll_45  (r := ?_)
  refine tX12_readAll_48  (kt := fun c_48 => ?_) (kf := fun c_48 => ?_)
  · have nk : k ≠ 400 := fun z => c_48 (by rw [z])
    refine tX12_readAll_59  (r := ?_)
    rw [nI_add]
    refine tX12_readAll_62 (r := ?_)
    refine kk _ tp2 ⟨⟨_, r2, fun j hj => ?_⟩, ⟨_, r3, fun j hj w => ?_⟩, ⟨_, r4, fun j hj => ?_⟩, ⟨_, r5, fun j hj w => ?_⟩⟩ rs
    · by_cases z : j = k
      · rw [z]
        exact (if_pos rfl).trans (by rw [kk_ne (Or.inl nk)]; rfl)
      · exact (if_neg z).trans (c2 j (by omega))
    · by_cases z : j = k
      · rw [z] at w ⊢
        rw [r3b (kk_ki w (by decide)), vv_dig w]
      · rw [r3a j z]
        exact c3 j (by omega) w
    · by_cases z : j = k
      · rw [z]
        exact if_pos rfl
      · exact (if_neg z).trans (c4 j (by omega))
    · by_cases z : j = k
      · rw [z]
        exact if_pos rfl
      · exact (if_neg z).trans (c5 j (by omega) w)
  · have kq : k = 400 := (nI_eq (by omega) (by decide)).mp c_48
    have k42 : kkT T k = 42 := by
      unfold kkT
      exact if_pos ⟨kq, ki_n41 lt (en_rng (T := T) (p := stT T k)).1⟩
    refine tX12_readAll_51  (r := ?_)
    refine tX12_readAll_52 (ha := (by first | assumption | (repeat (first | assumption | exact At.set_eq2 (by first | omega | (simp only [hset, hnew]; omega) | rfl | decide) | exact At.new_eq2 _ _ (by first | omega | (simp only [hset, hnew]; omega) | rfl | decide) | refine At.set_ne ?_ (by first | omega | (simp only [hset, hnew]; omega) | rfl | decide) | refine At.new_ne ?_)))) (hv := rfl) (r := ?_)
    refine tX12_readAll_55  (r := ?_)
    refine tX12_readAll_56  (r := ?_)
    refine tX12_readAll_58 (ha := (by first | assumption | (repeat (first | assumption | exact At.set_eq2 (by first | omega | (simp only [hset, hnew]; omega) | rfl | decide) | exact At.new_eq2 _ _ (by first | omega | (simp only [hset, hnew]; omega) | rfl | decide) | refine At.set_ne ?_ (by first | omega | (simp only [hset, hnew]; omega) | rfl | decide) | refine At.new_ne ?_)))) (hx := rfl) (hj := (by omega)) (hn := (by decide)) (r := ?_)
    refine tX12_readAll_59  (r := ?_)
    rw [nI_add]
    refine tX12_readAll_62 (r := ?_)
    refine kk _ (tp2.set (by omega)) ⟨⟨_, At.set_eq2 r2.1, fun j hj => ?_⟩, ⟨_, At.set_ne r3 (by omega), fun j hj w => ?_⟩, ⟨_, At.set_ne r4 (by omega), fun j hj => ?_⟩, ⟨_, At.set_ne r5 (by omega), fun j hj w => ?_⟩⟩ (rs.set (by omega) (by omega))
    · by_cases z : j = k
      · rw [z]
        exact (if_pos rfl).trans (by rw [k42]; rfl)
      · exact (if_neg z).trans ((if_neg z).trans (c2 j (by omega)))
    · by_cases z : j = k
      · rw [z] at w ⊢
        rw [r3b (kk_ki w (by decide)), vv_dig w]
      · rw [r3a j z]
        exact c3 j (by omega) w
    · by_cases z : j = k
      · rw [z]
        exact if_pos rfl
      · exact (if_neg z).trans (c4 j (by omega))
    · by_cases z : j = k
      · rw [z]
        exact if_pos rfl
      · exact (if_neg z).trans (c5 j (by omega) w)

end RTH
