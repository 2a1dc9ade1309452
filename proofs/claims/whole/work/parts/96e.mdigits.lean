/-! the reference reads a token: digits -/
theorem vd_5 {T : List Nat} {p : Nat} (hT : ∀ i, i < T.length → T.getD i 0 < 256) : ∀ n, vdT T p n + 1000 ≤ 1000 * 10 ^ n
  | 0 => Nat.le_refl _
  | n + 1 => by
    have h1 := vd_5 hT (p := p) n
    have h2 : T.getD (p + n) 0 < 256 := by
      by_cases z : p + n < T.length
      · exact hT _ z
      · have e : T[p + n]? = none := List.getElem?_eq_none (by omega)
        rw [List.getD_eq_getElem?_getD, e]
        decide
    show vdT T p n * 10 + (T.getD (p + n) 0 - 48) + 1000 ≤ 1000 * 10 ^ (n + 1)
    rw [Nat.pow_succ]
    omega
section RTE
variable {G : GT} {d : Nat} {h : AH} {m : Nat} {T : List Nat} {P : OC → AH → Prop}

set_option maxHeartbeats 4000000 in
set_option maxRecDepth 100000 in
theorem s_mdigs (hd : 2 ≤ d) (tp : TpM h m T) {p k : Nat} {w : Int32} : ∀ (n e : Nat), p < e → T.length ≤ n + e → e ≤ 2000 → RQ G mX12_read d 123 [some (.ref m), some (.int (nI p)), some (.int (nI k)), some (.int w), some (.int (nI (scT T (dgT T) n e))), (some (.int (nI (vdT T p (min (scT T (dgT T) n e - p) 5)))))] [] h P → RQ G mX12_read d 75 [some (.ref m), some (.int (nI p)), some (.int (nI k)), some (.int w), some (.int (nI e)), (some (.int (nI (vdT T p (min (e - p) 5)))))] [] h P := by
  obtain ⟨⟨th, ea, tk, iw, er, et, dp, nm, a0⟩, ⟨f, a1, hf⟩, l16, hT⟩ := id tp
  intro n
  induction n with
  | zero =>
    intro e hp hl he kk
    have nl : ¬ dgT T e = true := fun z => by have := (of_decide_eq_true z).1; omega
    refine tX12_read_75  (r := ?_)
    refine tX12_read_76  (r := ?_)
    refine tX12_read_78 (hd := (by omega)) (ha := (by first | assumption | (repeat (first | assumption | exact At.set_eq2 (by first | omega | (simp only [hset, hnew]; omega) | rfl | decide) | exact At.new_eq2 _ _ (by first | omega | (simp only [hset, hnew]; omega) | rfl | decide) | refine At.set_ne ?_ (by first | omega | (simp only [hset, hnew]; omega) | rfl | decide) | refine At.new_ne ?_)))) (call := s_mbyte (d := 0) tp (by omega)) (k := ?_)
    rintro x_ h_ ⟨hx_, e_⟩
    rw [e_, hx_]
    refine tX12_read_81 (hd := (by omega)) (call := s_mdig (d := 1) (T := T) (p := e) (by decide) hT rfl) (k := ?_)
    rintro x_ h_ ⟨hx_, e_⟩
    rw [e_, hx_]
    refine tX12_read_84  (kf := fun c_ => by exfalso; rw [if_neg nl] at c_; exact c_ rfl) (kt := fun _ => ?_)
    exact kk
  | succ n ih =>
    intro e hp hl he kk
    by_cases nl : dgT T e = true
    · have es : scT T (dgT T) (n + 1) e = scT T (dgT T) n (e + 1) := if_pos ⟨(of_decide_eq_true nl).1, nl⟩
      rw [es] at kk
      obtain ⟨lt, b1, b2⟩ := of_decide_eq_true nl
      refine tX12_read_75  (r := ?_)
      refine tX12_read_76  (r := ?_)
      refine tX12_read_78 (hd := (by omega)) (ha := (by first | assumption | (repeat (first | assumption | exact At.set_eq2 (by first | omega | (simp only [hset, hnew]; omega) | rfl | decide) | exact At.new_eq2 _ _ (by first | omega | (simp only [hset, hnew]; omega) | rfl | decide) | refine At.set_ne ?_ (by first | omega | (simp only [hset, hnew]; omega) | rfl | decide) | refine At.new_ne ?_)))) (call := s_mbyte (d := 0) tp (by omega)) (k := ?_)
      rintro x_ h_ ⟨hx_, e_⟩
      rw [e_, hx_]
      refine tX12_read_81 (hd := (by omega)) (call := s_mdig (d := 1) (T := T) (p := e) (by decide) hT rfl) (k := ?_)
      rintro x_ h_ ⟨hx_, e_⟩
      rw [e_, hx_]
      refine tX12_read_84  (kt := fun c_ => by exfalso; rw [if_pos nl] at c_; exact absurd c_ (by decide)) (kf := fun _ => ?_)
      refine tX12_read_87  (r := ?_)
      refine tX12_read_89  (r := ?_)
      refine tX12_read_90  (r := ?_)
      rw [nI_subN (by omega) (by omega)]
      refine tX12_read_91  (r := ?_)
      refine tX12_read_92  (kt := fun c_92 => ?_) (kf := fun c_92 => ?_)
      · have g5 : 5 ≤ e - p := (nI_leI (by decide) (by omega)).mp c_92
        have ev : vdT T p (min (e - p) 5) = vdT T p (min (e + 1 - p) 5) := by rw [show min (e - p) 5 = 5 from by omega, show min (e + 1 - p) 5 = 5 from by omega]
        rw [ev]
        refine tX12_read_113  (r := ?_)
        refine tX12_read_115  (r := ?_)
        refine tX12_read_117  (r := ?_)
        rw [nI_add]
        refine tX12_read_120 (r := ?_)
        exact ih (e + 1) (by omega) (by omega) (by omega) kk
      · have g5 : e - p < 5 := Nat.lt_of_not_le (fun z => c_92 ((nI_leI (by decide) (by omega)).mpr z))
        have ev : vdT T p (min (e + 1 - p) 5) = vdT T p (min (e - p) 5) * 10 + (T.getD e 0 - 48) := by
          rw [show min (e - p) 5 = e - p from by omega, show min (e + 1 - p) 5 = e - p + 1 from by omega]
          show vdT T p (e - p) * 10 + (T.getD (p + (e - p)) 0 - 48) = _
          rw [show p + (e - p) = e from by omega]
        have vb : vdT T p (min (e - p) 5) + 1000 ≤ 1000 * 10 ^ 4 := Nat.le_trans (vd_5 hT _) (Nat.mul_le_mul_left _ (Nat.pow_le_pow_right (by decide) (by omega)))
        rw [show 1000 * 10 ^ 4 = 10000000 from by decide] at vb
        refine tX12_read_95  (r := ?_)
        refine tX12_read_97  (r := ?_)
        refine tX12_read_99  (r := ?_)
        refine tX12_read_100  (r := ?_)
        refine tX12_read_101  (r := ?_)
        refine tX12_read_103 (hd := (by omega)) (ha := (by first | assumption | (repeat (first | assumption | exact At.set_eq2 (by first | omega | (simp only [hset, hnew]; omega) | rfl | decide) | exact At.new_eq2 _ _ (by first | omega | (simp only [hset, hnew]; omega) | rfl | decide) | refine At.set_ne ?_ (by first | omega | (simp only [hset, hnew]; omega) | rfl | decide) | refine At.new_ne ?_)))) (call := s_mbyte (d := 0) tp (by omega)) (k := ?_)
        rintro x_ h_ ⟨hx_, e_⟩
        rw [e_, hx_]
        refine tX12_read_106  (r := ?_)
        refine tX12_read_107  (r := ?_)
        refine tX12_read_109  (r := ?_)
        rw [show atT T e = nI (T.getD e 0) from if_pos lt, nI_mulN, nI_add, nI_subN (by omega) (by omega), show 10 * vdT T p (min (e - p) 5) + T.getD e 0 - 48 = vdT T p (min (e + 1 - p) 5) from by omega]
        refine tX12_read_110 (r := ?_)
        refine tX12_read_115  (r := ?_)
        refine tX12_read_117  (r := ?_)
        rw [nI_add]
        refine tX12_read_120 (r := ?_)
        exact ih (e + 1) (by omega) (by omega) (by omega) kk
    · have es : scT T (dgT T) (n + 1) e = e := if_neg (fun z => nl z.2)
      rw [es] at kk
      refine tX12_read_75  (r := ?_)
      refine tX12_read_76  (r := ?_)
      refine tX12_read_78 (hd := (by omega)) (ha := (by first | assumption | (repeat (first | assumption | exact At.set_eq2 (by first | omega | (simp only [hset, hnew]; omega) | rfl | decide) | exact At.new_eq2 _ _ (by first | omega | (simp only [hset, hnew]; omega) | rfl | decide) | refine At.set_ne ?_ (by first | omega | (simp only [hset, hnew]; omega) | rfl | decide) | refine At.new_ne ?_)))) (call := s_mbyte (d := 0) tp (by omega)) (k := ?_)
      rintro x_ h_ ⟨hx_, e_⟩
      rw [e_, hx_]
      refine tX12_read_81 (hd := (by omega)) (call := s_mdig (d := 1) (T := T) (p := e) (by decide) hT rfl) (k := ?_)
      rintro x_ h_ ⟨hx_, e_⟩
      rw [e_, hx_]
      refine tX12_read_84  (kf := fun c_ => by exfalso; rw [if_neg nl] at c_; exact c_ rfl) (kt := fun _ => ?_)
      exact kk

end RTE
