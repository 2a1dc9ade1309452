/-! the class reads all tokens, to the end -/
theorem ki_41 {T : List Nat} {p e : Nat} (h : kiT T p e ≠ 41) : p < T.length := by
  refine Nat.lt_of_not_le (fun z => h ?_)
  unfold kiT
  exact if_pos z
theorem sp_ne {T : List Nat} {k : Nat} (h : spK T k ≠ 1) : kkT T k ≠ 41 ∧ kkT T k ≠ 42 := by
  unfold spK at h
  by_cases z : kkT T k = 41 ∨ kkT T k = 42
  · rw [if_pos z] at h
    exact absurd rfl h
  · exact ⟨fun w => z (Or.inl w), fun w => z (Or.inr w)⟩
theorem sp_eq {T : List Nat} {k : Nat} (h : kkT T k = 41 ∨ kkT T k = 42) : spK T k = 1 := if_pos h
theorem kk_400 {T : List Nat} : kkT T 400 = 41 ∨ kkT T 400 = 42 := by
  unfold kkT
  by_cases z : (400 : Nat) = 400 ∧ kiT T (stT T 400) (edT T 400) ≠ 41
  · rw [if_pos z]
    exact Or.inr rfl
  · rw [if_neg z]
    exact Or.inl (Classical.byContradiction (fun w => z ⟨rfl, w⟩))
theorem kk_ne {T : List Nat} {k : Nat} (h : k ≠ 400 ∨ kiT T (stT T k) (edT T k) = 41) : kkT T k = kiT T (stT T k) (edT T k) := by
  unfold kkT
  exact if_neg (fun z => h.elim (fun w => w z.1) (fun w => z.2 w))
theorem st_le {T : List Nat} : ∀ {k : Nat}, k ≤ 400 → (∀ j, j < k → spK T j ≠ 1) → poT T k ≤ T.length ∧ stT T k ≤ T.length
  | 0, _, _ => ⟨Nat.zero_le _, (sc_rng (T := T) (f := blT T) 1600 0).2.1 (Nat.zero_le _)⟩
  | k + 1, hk, h => by
    have h1 := st_le (k := k) (by omega) (fun j hj => h j (by omega))
    have h2 := (sp_ne (h k (Nat.lt_succ_self k))).1
    rw [kk_ne (Or.inl (by omega))] at h2
    have h3 : poT T (k + 1) ≤ T.length := (en_rng (T := T) (p := stT T k)).2.1 (ki_41 h2)
    exact ⟨h3, (sc_rng (T := T) (f := blT T) 1600 (poT T (k + 1))).2.1 h3⟩
theorem cn_of {T : List Nat} {k : Nat} (hk : k ≤ 400) (h : ∀ j, j < k → spK T j ≠ 1) (e : spK T k = 1) : cnK T = k + 1 := by
  unfold cnK
  rw [fnN_first (f := spK T) (v := 1) (i := k) (n := 401) e h (by omega)]
  rfl
section TAG
variable {G : GT} {d : Nat} {h h0 : AH} {t b : Nat} {T : List Nat} {P : OC → AH → Prop}

set_option maxHeartbeats 4000000 in
set_option maxRecDepth 100000 in
theorem s_skip (hd : 2 ≤ d) (ta : TaR h t T) {p : Nat} (hp : p ≤ 1600) : RQ G mX9_behindBlanks d 0 [some (.ref b), some (.ref t), some (.int (nI p)), none] [] h (Ri fun v h1 => v = nI (skT T p) ∧ h1 = h) := by
  obtain ⟨a0, l16, f, a1, hf⟩ := id ta
  refine tX9_behindBlanks_0  (r := ?_)
  refine tX9_behindBlanks_1  (r := ?_)
  exact s_tskip hd ta 1600 p (by omega) (by omega)

set_option maxHeartbeats 4000000 in
set_option maxRecDepth 100000 in
theorem s_rf23 (hd : 8 ≤ d) (ta : TaR h t T) (hdj : t + 2 ≤ b ∨ b + 4 ≤ t) {k : Nat} (hk : k ≤ 400) (hn : ∀ j, j < k → spK T j ≠ 1) (kn : KnX h b T k) {x4 x5 : Option Value} (ho : ok1 x4 = true) (ho5 : ok1 x5 = true) (kk : ∀ h1 (x4 x5 : Option Value), ok1 x4 = true → ok1 x5 = true → KnX h1 b T (k + 1) → Sm h h1 b (b + 4) → RQ G mX9_readFrom d 9 [some (.ref b), some (.ref t), some (.int (nI (if kkT T k = 41 ∨ kkT T k = 42 then 0 else 1))), some (.int (nI (edT T k))), x4, x5] [] h1 P) : RQ G mX9_readFrom d 23 [some (.ref b), some (.ref t), some (.int (nI 1)), some (.int (nI (poT T k))), x4, x5] [] h P := by
  obtain ⟨a0, l16, f, a1, hf⟩ := id ta
  obtain ⟨k0, -⟩ := id kn
  have z0 := k0.1
  obtain ⟨po, st⟩ := st_le hk hn
  have er := en_rng (T := T) (p := stT T k)
  have kl := ki_lt (T := T) (p := stT T k) (e := edT T k)
  refine tX9_readFrom_23  (r := ?_)
  refine tX9_readFrom_24  (r := ?_)
  refine tX9_readFrom_25  (r := ?_)
  refine tX9_readFrom_26 (hd := (by omega)) (ha := (by first | assumption | (repeat (first | assumption | exact At.set_eq2 (by first | omega | (simp only [hset, hnew]; omega) | rfl | decide) | exact At.new_eq2 _ _ (by first | omega | (simp only [hset, hnew]; omega) | rfl | decide) | refine At.set_ne ?_ (by first | omega | (simp only [hset, hnew]; omega) | rfl | decide) | refine At.new_ne ?_)))) (call := s_skip (d := 2) (b := b) (by decide) ta (by omega)) (k := ?_)
  rintro x_ h_ ⟨hx_, e_⟩
  rw [e_, hx_]
  refine tX9_readFrom_29  (r := ?_)
  refine tX9_readFrom_30  (r := ?_)
  refine tX9_readFrom_31  (r := ?_)
  refine tX9_readFrom_32  (r := ?_)
  refine tX9_readFrom_33 (hd := (by omega)) (ha := (by first | assumption | (repeat (first | assumption | exact At.set_eq2 (by first | omega | (simp only [hset, hnew]; omega) | rfl | decide) | exact At.new_eq2 _ _ (by first | omega | (simp only [hset, hnew]; omega) | rfl | decide) | refine At.set_ne ?_ (by first | omega | (simp only [hset, hnew]; omega) | rfl | decide) | refine At.new_ne ?_)))) (call := s_tokEnd (d := 2) (b := b) (by decide) ta (p := stT T k) (by omega)) (k := ?_)
  rintro x_ h_ ⟨hx_, e_⟩
  rw [e_, hx_]
  refine tX9_readFrom_36  (r := ?_)
  refine tX9_readFrom_38  (r := ?_)
  refine tX9_readFrom_39  (r := ?_)
  refine tX9_readFrom_40  (r := ?_)
  refine tX9_readFrom_41  (r := ?_)
  refine tX9_readFrom_43 (hd := (by omega)) (ha := (by first | assumption | (repeat (first | assumption | exact At.set_eq2 (by first | omega | (simp only [hset, hnew]; omega) | rfl | decide) | exact At.new_eq2 _ _ (by first | omega | (simp only [hset, hnew]; omega) | rfl | decide) | refine At.set_ne ?_ (by first | omega | (simp only [hset, hnew]; omega) | rfl | decide) | refine At.new_ne ?_)))) (call := s_kindOf (d := 7) (b := b) (by decide) ta (p := stT T k) (e := edT T k) (by omega) ⟨Nat.le_of_lt er.1, by show enT T (stT T k) ≤ 3000; omega⟩) (k := ?_)
  rintro x_ h_ ⟨hx_, e_⟩
  rw [e_, hx_]
  refine tX9_readFrom_46  (r := ?_)
  refine tX9_readFrom_48  (r := ?_)
  refine tX9_readFrom_49 (ha := (by first | assumption | (repeat (first | assumption | exact At.set_eq2 (by first | omega | (simp only [hset, hnew]; omega) | rfl | decide) | exact At.new_eq2 _ _ (by first | omega | (simp only [hset, hnew]; omega) | rfl | decide) | refine At.set_ne ?_ (by first | omega | (simp only [hset, hnew]; omega) | rfl | decide) | refine At.new_ne ?_)))) (hv := rfl) (r := ?_)
  refine tX9_readFrom_52  (r := ?_)
  refine tX9_readFrom_55  (kt := fun c_55 => ?_) (kf := fun c_55 => ?_)
  · have ee : kkT T k = kiT T (stT T k) (edT T k) := kk_ne (Or.inl (fun z => c_55 (by rw [z])))
    rw [← ee]
    exact s_rf71 (by omega) ta hdj hk kn st kk
  · have kq : k = 400 := by
      have q1 : nI k ≤ nI 400 := by rw [c_55]; exact (nI_leI (by decide) (by decide)).mpr (Nat.le_refl _)
      have q2 : nI 400 ≤ nI k := by rw [c_55]; exact (nI_leI (by decide) (by decide)).mpr (Nat.le_refl _)
      have q3 := (nI_leI (by omega) (by decide)).mp q1
      have q4 := (nI_leI (by decide) (by omega)).mp q2
      omega
    refine tX9_readFrom_58  (r := ?_)
    refine tX9_readFrom_60  (r := ?_)
    refine tX9_readFrom_63 (hi := kl) (hj := (by omega)) (kt := fun c_63 => ?_) (kf := fun c_63 => ?_)
    · have ee : kkT T k = kiT T (stT T k) (edT T k) := kk_ne (Or.inr c_63)
      rw [← ee]
      exact s_rf71 (by omega) ta hdj hk kn st kk
    · have ee : kkT T k = 42 := if_pos ⟨kq, c_63⟩
      refine tX9_readFrom_66  (r := ?_)
      refine tX9_readFrom_69  (r := ?_)
      rw [← ee]
      exact s_rf71 (by omega) ta hdj hk kn st kk

set_option maxHeartbeats 4000000 in
set_option maxRecDepth 100000 in
theorem s_rf9 (hd : 8 ≤ d) (hdj : t + 2 ≤ b ∨ b + 4 ≤ t) : ∀ (n k : Nat) {h : AH} {x4 x5 : Option Value}, n + k = 400 → TaR h t T → (∀ j, j < k → spK T j ≠ 1) → KnX h b T k → ok1 x4 = true → ok1 x5 = true → Sm h0 h b (b + 4) → RQ G mX9_readFrom d 9 [some (.ref b), some (.ref t), some (.int (nI 1)), some (.int (nI (poT T k))), x4, x5] [] h (Rv fun h1 => KnX h1 b T (cnK T) ∧ Sm h0 h1 b (b + 4)) := by
  intro n
  induction n with
  | zero =>
    intro k h x4 x5 hk ta hn kn ho ho5 sm
    have kq : k = 400 := by omega
    refine tX9_readFrom_9 (tX9_readFrom_10 (fun c => absurd c (by decide)) (fun _ => tX9_readFrom_13 (tX9_readFrom_14 kn.1 rfl (tX9_readFrom_17 (tX9_readFrom_20 (fun c => by exfalso; have := (nI_ltI (by decide) (by omega)).mp c; omega) (fun _ => ?_))))))
    refine s_rf23 hd ta hdj (by omega) hn kn ho ho5 (fun h1 y4 y5 o4 o5 kn1 sm1 => ?_)
    have sp : kkT T k = 41 ∨ kkT T k = 42 := by rw [kq]; exact kk_400
    rw [show (if kkT T k = 41 ∨ kkT T k = 42 then 0 else 1) = 0 from if_pos sp]
    refine tX9_readFrom_9 (tX9_readFrom_10 (fun _ => tX9_readFrom_149 ⟨rfl, ?_, sm.trans sm1⟩) (fun c => absurd rfl c))
    rw [cn_of (by omega) hn (sp_eq sp)]
    exact kn1
  | succ n ih =>
    intro k h x4 x5 hk ta hn kn ho ho5 sm
    refine tX9_readFrom_9 (tX9_readFrom_10 (fun c => absurd c (by decide)) (fun _ => tX9_readFrom_13 (tX9_readFrom_14 kn.1 rfl (tX9_readFrom_17 (tX9_readFrom_20 (fun c => by exfalso; have := (nI_ltI (by decide) (by omega)).mp c; omega) (fun _ => ?_))))))
    refine s_rf23 hd ta hdj (by omega) hn kn ho ho5 (fun h1 y4 y5 o4 o5 kn1 sm1 => ?_)
    by_cases sp : kkT T k = 41 ∨ kkT T k = 42
    · rw [show (if kkT T k = 41 ∨ kkT T k = 42 then 0 else 1) = 0 from if_pos sp]
      refine tX9_readFrom_9 (tX9_readFrom_10 (fun _ => tX9_readFrom_149 ⟨rfl, ?_, sm.trans sm1⟩) (fun c => absurd rfl c))
      rw [cn_of (by omega) hn (sp_eq sp)]
      exact kn1
    · rw [show (if kkT T k = 41 ∨ kkT T k = 42 then 0 else 1) = 1 from if_neg sp]
      refine ih (k + 1) (by omega) (ta.sm9 sm1 (by omega)) (fun j hj => ?_) kn1 o4 o5 (sm.trans sm1)
      by_cases z : j = k
      · rw [z]
        unfold spK
        rw [if_neg sp]
        decide
      · exact hn j (by omega)


end TAG
