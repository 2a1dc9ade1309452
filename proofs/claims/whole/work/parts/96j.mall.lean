/-! the reference reads all tokens -/
theorem so_100 : ∀ x, x < 43 → soK x < 2147483648 := by decide
theorem so_32 : ∀ x, x < 43 → soK x = 32 → x = 42 := by decide
section RTJ
variable {G : GT} {d : Nat} {h0 : AH} {m : Nat} {T : List Nat}

set_option maxHeartbeats 4000000 in
set_option maxRecDepth 100000 in
theorem s_mra8 (hd : 10 ≤ d) : ∀ (n k : Nat) {h : AH}, n + k = 401 → TpM h m T → KmM h m T k → (∀ j, j < k → spK T j ≠ 1) → Sm h0 h (m + 2) (m + 6) → RQ G mX12_readAll d 8 [some (.ref m), some (.int (nI (stT T k))), some (.int (nI k))] [] h (Rv fun h1 => KmM h1 m T (cnK T) ∧ Sm h0 h1 (m + 2) (m + 6)) := by
  intro n
  induction n with
  | zero => exact fun k h hk tp km hn sm => absurd (sp_eq kk_400) (hn 400 (by omega))
  | succ n ih =>
    intro k h hk tp km hn sm
    obtain ⟨⟨th, ea, tk, iw, er, et, dp, nm, a0⟩, ⟨f, a1, hf⟩, l16, hT⟩ := id tp
    obtain ⟨⟨f2, a2, c2⟩, ⟨f3, a3, c3⟩, ⟨f4, a4, c4⟩, f5, a5, c5⟩ := id km
    obtain ⟨po, st⟩ := st_le (T := T) (k := k) (by omega) hn
    refine tX12_readAll_8  (r := ?_)
    refine tX12_readAll_9  (r := ?_)
    refine tX12_readAll_10 (ha := (by first | assumption | (repeat (first | assumption | exact At.set_eq2 (by first | omega | (simp only [hset, hnew]; omega) | rfl | decide) | exact At.new_eq2 _ _ (by first | omega | (simp only [hset, hnew]; omega) | rfl | decide) | refine At.set_ne ?_ (by first | omega | (simp only [hset, hnew]; omega) | rfl | decide) | refine At.new_ne ?_)))) (hv := rfl) (r := ?_)
    refine tX12_readAll_13  (kt := fun c_13 => ?_) (kf := fun c_13 => ?_)
    · have ge : T.length ≤ stT T k := (nI_leI (by omega) (by omega)).mp c_13
      have k41 : kkT T k = 41 := by
        have q : kiT T (stT T k) (edT T k) = 41 := by
          unfold kiT
          exact if_pos ge
        rw [kk_ne (Or.inr q)]
        exact q
      refine RQ.imp (s_mra65 tp km (by omega) (Or.inr ⟨cn_of (by omega) hn (sp_eq (Or.inl k41)), k41, by omega⟩)) ?_
      rintro o_ h_ ⟨e_, km_, sm_⟩
      exact ⟨e_, km_, sm.trans sm_⟩
    · have lt : stT T k < T.length := Nat.lt_of_not_le (fun z => c_13 ((nI_leI (by omega) (by omega)).mpr z))
      refine tX12_readAll_16  (r := ?_)
      refine tX12_readAll_17  (kt := fun c_17 => ?_) (kf := fun c_17 => ?_)
      · refine s_mra33 hd tp km (by omega) lt (fun h1 tp1 km1 sm1 => ?_)
        by_cases z : kkT T k = 42
        · refine RQ.imp (s_mra8b tp1 km1 (by omega) (cn_of (by omega) hn (sp_eq (Or.inr z))) z) ?_
          rintro o_ h_ ⟨e_, km_, sm_⟩
          exact ⟨e_, km_, (sm.trans sm1).trans sm_⟩
        · have z1 : kkT T k ≠ 41 := by
            by_cases y : k = 400 ∧ kiT T (stT T k) (edT T k) ≠ 41
            · exact absurd (if_pos y) z
            · rw [show kkT T k = kiT T (stT T k) (edT T k) from if_neg y]
              exact ki_n41 lt (en_rng (T := T) (p := stT T k)).1
          refine ih (k + 1) (by omega) tp1 km1 (fun j hj => ?_) (sm.trans sm1)
          by_cases y : j = k
          · rw [y]
            unfold spK
            rw [if_neg (fun w => w.elim z1 z)]
            decide
          · exact hn j (by omega)
      · have k0 : 0 < k := Nat.pos_of_ne_zero (fun z => c_17 (by rw [z]; rfl))
        refine tX12_readAll_20  (r := ?_)
        refine tX12_readAll_21 (ha := (by first | assumption | (repeat (first | assumption | exact At.set_eq2 (by first | omega | (simp only [hset, hnew]; omega) | rfl | decide) | exact At.new_eq2 _ _ (by first | omega | (simp only [hset, hnew]; omega) | rfl | decide) | refine At.set_ne ?_ (by first | omega | (simp only [hset, hnew]; omega) | rfl | decide) | refine At.new_ne ?_)))) (hv := rfl) (r := ?_)
        refine tX12_readAll_24  (r := ?_)
        refine tX12_readAll_25  (r := ?_)
        refine tX12_readAll_26  (r := ?_)
        rw [nI_subN (by omega) (by omega)]
        refine tX12_readAll_27 (ha := (by first | assumption | (repeat (first | assumption | exact At.set_eq2 (by first | omega | (simp only [hset, hnew]; omega) | rfl | decide) | exact At.new_eq2 _ _ (by first | omega | (simp only [hset, hnew]; omega) | rfl | decide) | refine At.set_ne ?_ (by first | omega | (simp only [hset, hnew]; omega) | rfl | decide) | refine At.new_ne ?_)))) (hx := rfl) (hj := (by omega)) (hn := (by decide)) (r := ?_)
        rw [c2 (k - 1) (by omega)]
        refine tX12_readAll_28  (r := ?_)
        refine tX12_readAll_30  (kt := fun c_ => by exfalso; exact (sp_ne (hn (k - 1) (by omega))).2 (so_32 _ kk_lt ((nI_eq (so_100 _ kk_lt) (by decide)).mp c_))) (kf := fun _ => ?_)
        refine s_mra33 hd tp km (by omega) lt (fun h1 tp1 km1 sm1 => ?_)
        by_cases z : kkT T k = 42
        · refine RQ.imp (s_mra8b tp1 km1 (by omega) (cn_of (by omega) hn (sp_eq (Or.inr z))) z) ?_
          rintro o_ h_ ⟨e_, km_, sm_⟩
          exact ⟨e_, km_, (sm.trans sm1).trans sm_⟩
        · have z1 : kkT T k ≠ 41 := by
            by_cases y : k = 400 ∧ kiT T (stT T k) (edT T k) ≠ 41
            · exact absurd (if_pos y) z
            · rw [show kkT T k = kiT T (stT T k) (edT T k) from if_neg y]
              exact ki_n41 lt (en_rng (T := T) (p := stT T k)).1
          refine ih (k + 1) (by omega) tp1 km1 (fun j hj => ?_) (sm.trans sm1)
          by_cases y : j = k
          · rw [y]
            unfold spK
            rw [if_neg (fun w => w.elim z1 z)]
            decide
          · exact hn j (by omega)

end RTJ
