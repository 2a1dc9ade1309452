/-! the class's tokens: values -/
def vnT (T : List Nat) (p : Nat) : Nat → Nat
  | 0 => 0
  | n + 1 => vnT T p n * 32 + (T.getD (p + n) 0 - 97) + 1
def vdT (T : List Nat) (p : Nat) : Nat → Nat
  | 0 => 0
  | n + 1 => vdT T p n * 10 + (T.getD (p + n) 0 - 48)
def vaT (T : List Nat) (kd p e : Nat) : Nat := if kd = 39 then vnT T p (e - p) else if kd = 40 then vdT T p (e - p) else 0
theorem nI_L {b : Nat} (hb : b < 256) : (nI b).toInt64 = nL b := by
  have key : (List.range 256).all (fun b => (nI b).toInt64 == nL b) = true := by decide +kernel
  exact eq_of_beq (List.all_eq_true.mp key b (List.mem_range.mpr hb))
theorem nL_sub {a c : Nat} (h : c ≤ a) : nL a - nL c = nL (a - c) := by
  have e : nL a = nL (a - c) + nL c := by
    show Int64.ofNat a = Int64.ofNat (a - c) + Int64.ofNat c
    rw [← Int64.ofNat_add, Nat.sub_add_cancel h]
  rw [e, Int64.add_sub_cancel]
theorem val_n {a b : Nat} (h1 : 97 ≤ b) (h2 : b < 256) : nL a * nL 32 + (nI b).toInt64 - nL 97 + nL 1 = nL (a * 32 + (b - 97) + 1) := by
  rw [nI_L h2]
  show Int64.ofNat a * Int64.ofNat 32 + Int64.ofNat b - nL 97 + Int64.ofNat 1 = _
  rw [← Int64.ofNat_mul, ← Int64.ofNat_add]
  show nL (a * 32 + b) - nL 97 + Int64.ofNat 1 = _
  rw [nL_sub (by omega)]
  show Int64.ofNat _ + Int64.ofNat 1 = _
  rw [← Int64.ofNat_add]
  show nL _ = nL _
  congr 1
  omega
theorem val_d {a b : Nat} (h1 : 48 ≤ b) (h2 : b < 256) : nL a * nL 10 + (nI b).toInt64 - nL 48 = nL (a * 10 + (b - 48)) := by
  rw [nI_L h2]
  show Int64.ofNat a * Int64.ofNat 10 + Int64.ofNat b - nL 48 = _
  rw [← Int64.ofNat_mul, ← Int64.ofNat_add]
  show nL (a * 10 + b) - nL 48 = _
  rw [nL_sub (by omega)]
  show nL _ = nL _
  congr 1
  omega
section TAV
variable {G : GT} {d : Nat} {h : AH} {t b : Nat} {T : List Nat}

set_option maxHeartbeats 4000000 in
set_option maxRecDepth 100000 in
theorem s_val13 (hd : 2 ≤ d) (ta : TaR h t T) {p e k0 : Nat} (hp : p ≤ 1600) (he : p ≤ e ∧ e ≤ 3000) (hl : ∀ k, k < e - p → ltT T (p + k) = true) : ∀ (n i : Nat) , (e - p) ≤ i + n → i ≤ (e - p) → True → RQ G mX9_valueOf d 13 [some (.ref b), some (.ref t), some (.ref k0), some (.int (nI p)), some (.int (nI e)), some (.long (nL (vnT T p i))), none, some (.int (nI (p + i)))] [] h (Rj fun v h1 => v = nL (vnT T p (e - p)) ∧ h1 = h) := by
  have ex : ∀ (i : Nat) , i = (e - p) → True → RQ G mX9_valueOf d 13 [some (.ref b), some (.ref t), some (.ref k0), some (.int (nI p)), some (.int (nI e)), some (.long (nL (vnT T p i))), none, some (.int (nI (p + i)))] [] h (Rj fun v h1 => v = nL (vnT T p (e - p)) ∧ h1 = h) := by
    intro i  hi _
    subst hi
    obtain ⟨a0, l16, f, a1, hf⟩ := id ta
    refine tX9_valueOf_13  (r := ?_)
    refine tX9_valueOf_15  (r := ?_)
    refine tX9_valueOf_17  (kf := fun c_ => by exfalso; exact c_ ((nI_leI (by omega) (by omega)).mpr (by omega))) (kt := fun _ => ?_)
    refine tX9_valueOf_48 (r := ?_)
    refine tX9_valueOf_94  (r := ?_)
    refine tX9_valueOf_96  (hP := ?_)
    exact ⟨_, rfl, rfl, rfl⟩
  intro n
  induction n with
  | zero => exact fun i  h1_ h2_ => ex i  (by omega)
  | succ n ih =>
    intro i  h1_ h2_ _
    by_cases hi : i = (e - p)
    · exact ex i  hi trivial
    have hi2 : i < (e - p) := by omega
    obtain ⟨a0, l16, f, a1, hf⟩ := id ta
    refine tX9_valueOf_13  (r := ?_)
    refine tX9_valueOf_15  (r := ?_)
    refine tX9_valueOf_17  (kt := fun c_ => by exfalso; exact absurd ((nI_leI (by omega) (by omega)).mp c_) (by omega)) (kf := fun _ => ?_)
    refine tX9_valueOf_20  (r := ?_)
    refine tX9_valueOf_22  (r := ?_)
    refine tX9_valueOf_25  (r := ?_)
    refine tX9_valueOf_26  (r := ?_)
    refine tX9_valueOf_27  (r := ?_)
    refine tX9_valueOf_29 (hd := (by omega)) (ha := (by first | assumption | (repeat (first | assumption | exact At.set_eq2 (by first | omega | (simp only [hset, hnew]; omega) | rfl | decide) | exact At.new_eq2 _ _ (by first | omega | (simp only [hset, hnew]; omega) | rfl | decide) | refine At.set_ne ?_ (by first | omega | (simp only [hset, hnew]; omega) | rfl | decide) | refine At.new_ne ?_)))) (call := s_tat (d := 0) ta (by omega)) (k := ?_)
    rintro x_ h_ ⟨hx_, e_⟩
    have hb := hl i hi2
    have hb2 := of_decide_eq_true hb
    have b256 := (hf _ hb2.1).2
    rw [e_, hx_, show atT T (p + i) = nI (T.getD (p + i) 0) from if_pos hb2.1]
    refine tX9_valueOf_32  (r := ?_)
    refine tX9_valueOf_33  (r := ?_)
    refine tX9_valueOf_34  (r := ?_)
    refine tX9_valueOf_37  (r := ?_)
    refine tX9_valueOf_38  (r := ?_)
    refine tX9_valueOf_39  (r := ?_)
    refine tX9_valueOf_40  (r := ?_)
    refine tX9_valueOf_42  (r := ?_)
    rw [nI_add]
    refine tX9_valueOf_45 (r := ?_)
    have key := ih (i + 1) (by omega) (by omega) trivial
    rw [show vnT T p (i + 1) = vnT T p i * 32 + (T.getD (p + i) 0 - 97) + 1 from rfl, ← Nat.add_assoc] at key
    rw [← val_n (a := vnT T p i) (b := T.getD (p + i) 0) hb2.2.1 b256] at key
    exact key

set_option maxHeartbeats 4000000 in
set_option maxRecDepth 100000 in
theorem s_val61 (hd : 2 ≤ d) (ta : TaR h t T) {p e k0 : Nat} (hp : p ≤ 1600) (he : p ≤ e ∧ e ≤ 3000) (hl : ∀ k, k < e - p → dgT T (p + k) = true) : ∀ (n i : Nat) , (e - p) ≤ i + n → i ≤ (e - p) → True → RQ G mX9_valueOf d 61 [some (.ref b), some (.ref t), some (.ref k0), some (.int (nI p)), some (.int (nI e)), some (.long (nL (vdT T p i))), none, some (.int (nI (p + i)))] [] h (Rj fun v h1 => v = nL (vdT T p (e - p)) ∧ h1 = h) := by
  have ex : ∀ (i : Nat) , i = (e - p) → True → RQ G mX9_valueOf d 61 [some (.ref b), some (.ref t), some (.ref k0), some (.int (nI p)), some (.int (nI e)), some (.long (nL (vdT T p i))), none, some (.int (nI (p + i)))] [] h (Rj fun v h1 => v = nL (vdT T p (e - p)) ∧ h1 = h) := by
    intro i  hi _
    subst hi
    obtain ⟨a0, l16, f, a1, hf⟩ := id ta
    refine tX9_valueOf_61  (r := ?_)
    refine tX9_valueOf_63  (r := ?_)
    refine tX9_valueOf_65  (kf := fun c_ => by exfalso; exact c_ ((nI_leI (by omega) (by omega)).mpr (by omega))) (kt := fun _ => ?_)
    refine tX9_valueOf_94  (r := ?_)
    refine tX9_valueOf_96  (hP := ?_)
    exact ⟨_, rfl, rfl, rfl⟩
  intro n
  induction n with
  | zero => exact fun i  h1_ h2_ => ex i  (by omega)
  | succ n ih =>
    intro i  h1_ h2_ _
    by_cases hi : i = (e - p)
    · exact ex i  hi trivial
    have hi2 : i < (e - p) := by omega
    obtain ⟨a0, l16, f, a1, hf⟩ := id ta
    refine tX9_valueOf_61  (r := ?_)
    refine tX9_valueOf_63  (r := ?_)
    refine tX9_valueOf_65  (kt := fun c_ => by exfalso; exact absurd ((nI_leI (by omega) (by omega)).mp c_) (by omega)) (kf := fun _ => ?_)
    refine tX9_valueOf_68  (r := ?_)
    refine tX9_valueOf_70  (r := ?_)
    refine tX9_valueOf_73  (r := ?_)
    refine tX9_valueOf_74  (r := ?_)
    refine tX9_valueOf_75  (r := ?_)
    refine tX9_valueOf_77 (hd := (by omega)) (ha := (by first | assumption | (repeat (first | assumption | exact At.set_eq2 (by first | omega | (simp only [hset, hnew]; omega) | rfl | decide) | exact At.new_eq2 _ _ (by first | omega | (simp only [hset, hnew]; omega) | rfl | decide) | refine At.set_ne ?_ (by first | omega | (simp only [hset, hnew]; omega) | rfl | decide) | refine At.new_ne ?_)))) (call := s_tat (d := 0) ta (by omega)) (k := ?_)
    rintro x_ h_ ⟨hx_, e_⟩
    have hb := hl i hi2
    have hb2 := of_decide_eq_true hb
    have b256 := (hf _ hb2.1).2
    rw [e_, hx_, show atT T (p + i) = nI (T.getD (p + i) 0) from if_pos hb2.1]
    refine tX9_valueOf_80  (r := ?_)
    refine tX9_valueOf_81  (r := ?_)
    refine tX9_valueOf_82  (r := ?_)
    refine tX9_valueOf_85  (r := ?_)
    refine tX9_valueOf_86  (r := ?_)
    refine tX9_valueOf_88  (r := ?_)
    rw [nI_add]
    refine tX9_valueOf_91 (r := ?_)
    have key := ih (i + 1) (by omega) (by omega) trivial
    rw [show vdT T p (i + 1) = vdT T p i * 10 + (T.getD (p + i) 0 - 48) from rfl, ← Nat.add_assoc] at key
    rw [← val_d (a := vdT T p i) (b := T.getD (p + i) 0) hb2.2.1 b256] at key
    exact key

set_option maxHeartbeats 4000000 in
set_option maxRecDepth 100000 in
theorem s_valueOf (hd : 2 ≤ d) (ta : TaR h t T) {p e kd : Nat} (hk : kd < 43) (hp : p ≤ 1600) (he : p ≤ e ∧ e ≤ 3000) (h39 : kd = 39 → ∀ k, k < e - p → ltT T (p + k) = true) (h40 : kd = 40 → ∀ k, k < e - p → dgT T (p + k) = true) : RQ G mX9_valueOf d 0 [some (.ref b), some (.ref t), some (.ref (OLD + kd)), some (.int (nI p)), some (.int (nI e)), none, none, none] [] h (Rj fun v h1 => v = nL (vaT T kd p e) ∧ h1 = h) := by
  obtain ⟨a0, l16, f, a1, hf⟩ := id ta
  refine tX9_valueOf_0  (r := ?_)
  refine tX9_valueOf_1  (r := ?_)
  refine tX9_valueOf_3  (r := ?_)
  refine tX9_valueOf_4  (r := ?_)
  refine tX9_valueOf_7 (hi := hk) (hj := (by omega)) (kt := fun c_7 => ?_) (kf := fun c_7 => ?_)
  · refine tX9_valueOf_51  (r := ?_)
    refine tX9_valueOf_52  (r := ?_)
    refine tX9_valueOf_55 (hi := hk) (hj := (by omega)) (kt := fun c_55 => ?_) (kf := fun c_55 => ?_)
    · have ev : vaT T kd p e = 0 := (if_neg c_7).trans (if_neg c_55)
      rw [ev]
      refine tX9_valueOf_94  (r := ?_)
      refine tX9_valueOf_96  (hP := ?_)
      exact ⟨_, rfl, rfl, rfl⟩
    · have ev : vaT T kd p e = vdT T p (e - p) := (if_neg c_7).trans (if_pos c_55)
      rw [ev]
      refine tX9_valueOf_58  (r := ?_)
      refine tX9_valueOf_59  (r := ?_)
      exact s_val61 hd ta hp he (h40 c_55) (e - p) 0 (by omega) (by omega) trivial
  · have ev : vaT T kd p e = vnT T p (e - p) := if_pos c_7
    rw [ev]
    refine tX9_valueOf_10  (r := ?_)
    refine tX9_valueOf_11  (r := ?_)
    exact s_val13 hd ta hp he (h39 c_7) (e - p) 0 (by omega) (by omega) trivial

end TAV
