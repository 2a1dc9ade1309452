/-! a jar is shaken: both sides -/
/-- .. as far as the first i -/
def ppB (b : Nat → Nat) (la i : Nat) : Nat → Nat := fun k => if k < i then stB b la k else b k
theorem prL_lt {la k : Nat} (h : k < la) : prL la k < la := by
  unfold prL
  split <;> omega
theorem prL_mod {la k : Nat} (h : k < la) : (k + la - 1) % la = prL la k := by
  unfold prL
  by_cases e : k = 0
  · rw [if_pos e, e, Nat.zero_add]
    exact Nat.mod_eq_of_lt (by omega)
  · rw [if_neg e, show k + la - 1 = k - 1 + la by omega, Nat.add_mod_right]
    exact Nat.mod_eq_of_lt (by omega)
theorem ppB_0 (b : Nat → Nat) (la : Nat) : ppB b la 0 = b := funext (fun k => if_neg (Nat.not_lt_zero k))
theorem ppB_la (b : Nat → Nat) (la : Nat) : ppB b la la = stB b la := funext (fun k => by
  show (if k < la then stB b la k else b k) = stB b la k
  by_cases e : k < la
  · rw [if_pos e]
  · rw [if_neg e]
    exact (if_neg e).symm)
theorem ppB_hi {b : Nat → Nat} {la i k : Nat} (h : i ≤ k) : ppB b la i k = b k := if_neg (Nat.not_lt.mpr h)
theorem ppB_next {b : Nat → Nat} {la i k : Nat} : ppB b la (i + 1) k = if k = i then stB b la i else ppB b la i k := by
  show (if k < i + 1 then stB b la k else b k) = if k = i then stB b la i else if k < i then stB b la k else b k
  by_cases e : k = i
  · rw [if_pos (by omega), if_pos e, e]
  · by_cases e2 : k < i
    · rw [if_pos (by omega), if_neg e, if_pos e2]
    · rw [if_neg (by omega), if_neg e, if_neg e2]
theorem nI_asc {x c g : Nat} (hx : x ≤ 5000) (hc : c ≤ 5000) (hg : g ≤ x) : nI x + (nI c - nI g) = nI (x + c - g) := by
  have e1 : (nI c - nI g).toInt = (c : Int) - g := by
    rw [Int32.toInt_sub, nI_toInt (by omega), nI_toInt (by omega), Int.bmod_eq_of_le (by omega) (by omega)]
  apply Int32.toInt_inj.mp
  rw [Int32.toInt_add, e1, nI_toInt (by omega), nI_toInt (by omega), Int.bmod_eq_of_le (by omega) (by omega)]
  omega
theorem su_shift {g : Nat → Nat} {c : Nat} : ∀ n, su (fun k => if k = 0 then c else g (k - 1)) (n + 1) = c + su g n
  | 0 => by
    show 0 + (if 0 = 0 then c else g (0 - 1)) = c + 0
    rw [if_pos rfl]
    omega
  | n + 1 => by
    show su (fun k => if k = 0 then c else g (k - 1)) (n + 1) + (if n + 1 = 0 then c else g (n + 1 - 1)) = c + (su g n + g n)
    rw [su_shift n, if_neg (by omega), Nat.add_sub_cancel]
    omega
theorem stB_sum {b : Nat → Nat} {la : Nat} (hla : la ≤ 6) (hz : ∀ k, la ≤ k → k < 6 → b k = 0) : su (stB b la) 6 = su b 6 := by
  have z1 : su (stB b la) 6 = su (stB b la) la := su_ext 6 hla (fun i h1 h2 => (if_neg (Nat.not_lt.mpr h1)).trans (hz i h1 h2))
  have z2 : su b 6 = su b la := su_ext 6 hla hz
  rw [z1, z2]
  cases la with
  | zero => rfl
  | succ n =>
    have e1 : su (fun k => stB b (n + 1) k + b k / 10) (n + 1) = su (fun k => b k + (fun k => if k = 0 then b n / 10 else (fun i => b i / 10) (k - 1)) k) (n + 1) := su_congr (fun i hi => by
      have h1 := Nat.div_le_self (b i) 10
      have h2 : stB b (n + 1) i = b i + b (prL (n + 1) i) / 10 - b i / 10 := if_pos hi
      show stB b (n + 1) i + b i / 10 = b i + (if i = 0 then b n / 10 else b (i - 1) / 10)
      rw [h2]
      by_cases e : i = 0
      · have h3 : prL (n + 1) i = n := if_pos e
        rw [h3, if_pos e]
        omega
      · have h3 : prL (n + 1) i = i - 1 := if_neg e
        rw [h3, if_neg e]
        omega)
    have e3 := su_shift (g := fun i => b i / 10) (c := b n / 10) n
    rw [su_add, su_add, e3] at e1
    have e2 : su (fun k => b k / 10) (n + 1) = su (fun k => b k / 10) n + b n / 10 := rfl
    omega
theorem jrB_self (D : DY) (i : Nat) : jrB D i (dB D i) = D := by
  have e : (fun z => if z = i then dB D i else dB D z) = dB D := funext (fun z => by
    by_cases h : z = i
    · rw [if_pos h, h]
    · rw [if_neg h])
  show (dDay D, (fun z => if z = i then dB D i else dB D z), dL D, dF D) = D
  rw [e]
theorem jrB_at (D : DY) (i : Nat) (b : Nat → Nat) : dB (jrB D i b) i = b := if_pos rfl
theorem BDok.st {B : BK} {D : DY} (hb : BDok B D) {i : Nat} (hi : i < bJa B) : BDok B (jrB D i (stB (dB D i) (bLa B))) := by
  have l1 := hb.1
  have l2 := hb.2.1
  refine hb.jb hi (by rw [stB_sum l1 (fun k k1 k2 => hb.2.2.2.2.2.1 i k (by omega) k1 k2)]; exact hb.2.2.2.2.2.2.1 i (by omega)) (fun k k1 k2 => ?_)
  exact (if_neg (Nat.not_lt.mpr k1)).trans (hb.2.2.2.2.2.1 i k (by omega) k1 k2)
section SH
variable {G : GT} {d : Nat} {s : ST} {h0 h : AH} {bk dr : Nat}

set_option maxHeartbeats 4000000 in
set_option maxRecDepth 100000 in
theorem s_stir_l {j se wy la : Nat} {b r : Nat → Nat} {p wn l : Nat → Int32} {tu fi ma co : Int32} (hs : su b 6 ≤ 1200) (hla : la ≤ 6) : ∀ (n i : Nat) (h : AH) (g : Nat → Int32) (x : Int32) (x4 : Option Value), la ≤ i + n → i ≤ la → JarC h j g p wn l (nI se) (24 + wy) tu fi ma co → (∀ k, k < 6 → g k = nI (ppB b la i k)) → (i < la → x = nI (b (prL la i) / 10)) → Sm h0 h j (j + 5) → RQ G mX4_stir d 28 [some (.ref j), some (.int (nI la)), some (.int x), some (.int (nI i)), x4] [] h (Rv fun h1 => JaR h1 j (stB b la) se wy r ∧ Sm h0 h1 j (j + 5)) := by
  have ex : ∀ (i : Nat) (h : AH) (g : Nat → Int32) (x : Int32) (x4 : Option Value), i = la → JarC h j g p wn l (nI se) (24 + wy) tu fi ma co → (∀ k, k < 6 → g k = nI (ppB b la i k)) → (i < la → x = nI (b (prL la i) / 10)) → Sm h0 h j (j + 5) → RQ G mX4_stir d 28 [some (.ref j), some (.int (nI la)), some (.int x), some (.int (nI i)), x4] [] h (Rv fun h1 => JaR h1 j (stB b la) se wy r ∧ Sm h0 h1 j (j + 5)) := by
    intro i h g x x4 hi jc hg hx sm
    subst hi
    obtain ⟨a0, a1, a2, a3, a4⟩ := id jc
    have l0_ := a0.1
    have l1_ := a1.1
    have l2_ := a2.1
    have l3_ := a3.1
    have l4_ := a4.1
    refine tX4_stir_28  (r := ?_)
    refine tX4_stir_29  (r := ?_)
    refine tX4_stir_30  (kf := fun c_ => by exfalso; exact c_ ((nI_leI (by omega) (by omega)).mpr (Nat.le_refl _))) (kt := fun _ => ?_)
    refine tX4_stir_72  (r := ?_)
    refine tX4_stir_73  (r := ?_)
    refine tX4_stir_74 (ha := (by first | assumption | (repeat (first | assumption | exact At.set_eq2 (by first | omega | (simp only [hset, hnew]; omega) | rfl | decide) | exact At.new_eq2 _ _ (by first | omega | (simp only [hset, hnew]; omega) | rfl | decide) | refine At.set_ne ?_ (by first | omega | (simp only [hset, hnew]; omega) | rfl | decide) | refine At.new_ne ?_)))) (hlen := rfl) (hb := (by first | exact Or.inl rfl | exact Or.inr rfl | assumption)) (r := ?_)
    refine tX4_stir_77  (hP := ?_)
    refine ⟨rfl, ⟨g, p, wn, l, tu, fi, ma, nI 0, ⟨At.set_eq2 l0_, by (first | assumption | (repeat (first | assumption | exact At.set_eq2 (by (first | omega | (simp only [hset, hnew]; omega) | rfl | decide)) | exact At.new_eq2 _ _ (by (first | omega | (simp only [hset, hnew]; omega) | rfl | decide)) | refine At.set_ne ?_ (by (first | omega | (simp only [hset, hnew]; omega) | rfl | decide)) | refine At.new_ne ?_))), by (first | assumption | (repeat (first | assumption | exact At.set_eq2 (by (first | omega | (simp only [hset, hnew]; omega) | rfl | decide)) | exact At.new_eq2 _ _ (by (first | omega | (simp only [hset, hnew]; omega) | rfl | decide)) | refine At.set_ne ?_ (by (first | omega | (simp only [hset, hnew]; omega) | rfl | decide)) | refine At.new_ne ?_))), by (first | assumption | (repeat (first | assumption | exact At.set_eq2 (by (first | omega | (simp only [hset, hnew]; omega) | rfl | decide)) | exact At.new_eq2 _ _ (by (first | omega | (simp only [hset, hnew]; omega) | rfl | decide)) | refine At.set_ne ?_ (by (first | omega | (simp only [hset, hnew]; omega) | rfl | decide)) | refine At.new_ne ?_))), by (first | assumption | (repeat (first | assumption | exact At.set_eq2 (by (first | omega | (simp only [hset, hnew]; omega) | rfl | decide)) | exact At.new_eq2 _ _ (by (first | omega | (simp only [hset, hnew]; omega) | rfl | decide)) | refine At.set_ne ?_ (by (first | omega | (simp only [hset, hnew]; omega) | rfl | decide)) | refine At.new_ne ?_)))⟩, fun k hk => ?_, Or.inl rfl⟩, sm.set (by omega) (by omega)⟩
    rw [hg k hk, ppB_la]
  intro n
  induction n with
  | zero => exact fun i h g x x4 h1_ h2_ => ex i h g x x4 (by omega)
  | succ n ih =>
    intro i h g x x4 h1_ h2_ jc hg hx sm
    by_cases hi : i = la
    · exact ex i h g x x4 hi jc hg hx sm
    have hi2 : i < la := by omega
    obtain ⟨a0, a1, a2, a3, a4⟩ := id jc
    have l0_ := a0.1
    have l1_ := a1.1
    have l2_ := a2.1
    have l3_ := a3.1
    have l4_ := a4.1
    refine tX4_stir_28  (r := ?_)
    have hx2 := hx hi2
    subst hx2
    have i6 : i < 6 := by omega
    have w1 := su_mem (f := b) i6
    have w2 := su_mem (f := b) (n := 6) (a := prL la i) (by have := prL_lt hi2; omega)
    have w3 := Nat.div_le_self (b i) 10
    have w4 := Nat.div_le_self (b (prL la i)) 10
    refine tX4_stir_29  (r := ?_)
    refine tX4_stir_30  (kt := fun c_ => by exfalso; exact absurd ((nI_leI (by omega) (by omega)).mp c_) (by omega)) (kf := fun _ => ?_)
    refine tX4_stir_33  (r := ?_)
    refine tX4_stir_34  (r := ?_)
    refine tX4_stir_36  (kt := fun c_ => by exfalso; exact absurd ((nI_leI (by decide) (by omega)).mp c_) (by omega)) (kf := fun _ => ?_)
    refine tX4_stir_39  (r := ?_)
    refine tX4_stir_40 (ha := (by first | assumption | (repeat (first | assumption | exact At.set_eq2 (by first | omega | (simp only [hset, hnew]; omega) | rfl | decide) | exact At.new_eq2 _ _ (by first | omega | (simp only [hset, hnew]; omega) | rfl | decide) | refine At.set_ne ?_ (by first | omega | (simp only [hset, hnew]; omega) | rfl | decide) | refine At.new_ne ?_)))) (hv := rfl) (r := ?_)
    refine tX4_stir_43  (r := ?_)
    refine tX4_stir_44 (ha := (by first | assumption | (repeat (first | assumption | exact At.set_eq2 (by first | omega | (simp only [hset, hnew]; omega) | rfl | decide) | exact At.new_eq2 _ _ (by first | omega | (simp only [hset, hnew]; omega) | rfl | decide) | refine At.set_ne ?_ (by first | omega | (simp only [hset, hnew]; omega) | rfl | decide) | refine At.new_ne ?_)))) (hx := rfl) (hj := i6) (hn := (by decide)) (r := ?_)
    rw [hg _ i6, ppB_hi (Nat.le_refl _)]
    refine tX4_stir_45  (r := ?_)
    refine tX4_stir_47 (hne := (by decide)) (r := ?_)
    rw [pk_div (by omega) (by decide) (by decide)]
    refine tX4_stir_48  (r := ?_)
    refine tX4_stir_50  (r := ?_)
    refine tX4_stir_51 (ha := (by first | assumption | (repeat (first | assumption | exact At.set_eq2 (by first | omega | (simp only [hset, hnew]; omega) | rfl | decide) | exact At.new_eq2 _ _ (by first | omega | (simp only [hset, hnew]; omega) | rfl | decide) | refine At.set_ne ?_ (by first | omega | (simp only [hset, hnew]; omega) | rfl | decide) | refine At.new_ne ?_)))) (hv := rfl) (r := ?_)
    refine tX4_stir_54  (r := ?_)
    refine tX4_stir_55  (r := ?_)
    refine tX4_stir_56 (ha := (by first | assumption | (repeat (first | assumption | exact At.set_eq2 (by first | omega | (simp only [hset, hnew]; omega) | rfl | decide) | exact At.new_eq2 _ _ (by first | omega | (simp only [hset, hnew]; omega) | rfl | decide) | refine At.set_ne ?_ (by first | omega | (simp only [hset, hnew]; omega) | rfl | decide) | refine At.new_ne ?_)))) (hx := rfl) (hj := i6) (hn := (by decide)) (r := ?_)
    rw [hg _ i6, ppB_hi (Nat.le_refl _)]
    refine tX4_stir_57  (r := ?_)
    refine tX4_stir_58  (r := ?_)
    refine tX4_stir_60  (r := ?_)
    refine tX4_stir_61  (r := ?_)
    rw [nI_asc (by omega) (by omega) (by omega)]
    refine tX4_stir_62 (ha := (by first | assumption | (repeat (first | assumption | exact At.set_eq2 (by first | omega | (simp only [hset, hnew]; omega) | rfl | decide) | exact At.new_eq2 _ _ (by first | omega | (simp only [hset, hnew]; omega) | rfl | decide) | refine At.set_ne ?_ (by first | omega | (simp only [hset, hnew]; omega) | rfl | decide) | refine At.new_ne ?_)))) (hx := rfl) (hj := i6) (hn := (by decide)) (r := ?_)
    refine tX4_stir_63  (r := ?_)
    refine tX4_stir_65  (r := ?_)
    refine tX4_stir_66  (r := ?_)
    rw [nI_add]
    refine tX4_stir_69 (r := ?_)
    refine ih (i + 1) _ _ _ _ (by omega) (by omega) ⟨by (first | assumption | (repeat (first | assumption | exact At.set_eq2 (by (first | omega | (simp only [hset, hnew]; omega) | rfl | decide)) | exact At.new_eq2 _ _ (by (first | omega | (simp only [hset, hnew]; omega) | rfl | decide)) | refine At.set_ne ?_ (by (first | omega | (simp only [hset, hnew]; omega) | rfl | decide)) | refine At.new_ne ?_))), At.set_eq2 l1_, by (first | assumption | (repeat (first | assumption | exact At.set_eq2 (by (first | omega | (simp only [hset, hnew]; omega) | rfl | decide)) | exact At.new_eq2 _ _ (by (first | omega | (simp only [hset, hnew]; omega) | rfl | decide)) | refine At.set_ne ?_ (by (first | omega | (simp only [hset, hnew]; omega) | rfl | decide)) | refine At.new_ne ?_))), by (first | assumption | (repeat (first | assumption | exact At.set_eq2 (by (first | omega | (simp only [hset, hnew]; omega) | rfl | decide)) | exact At.new_eq2 _ _ (by (first | omega | (simp only [hset, hnew]; omega) | rfl | decide)) | refine At.set_ne ?_ (by (first | omega | (simp only [hset, hnew]; omega) | rfl | decide)) | refine At.new_ne ?_))), by (first | assumption | (repeat (first | assumption | exact At.set_eq2 (by (first | omega | (simp only [hset, hnew]; omega) | rfl | decide)) | exact At.new_eq2 _ _ (by (first | omega | (simp only [hset, hnew]; omega) | rfl | decide)) | refine At.set_ne ?_ (by (first | omega | (simp only [hset, hnew]; omega) | rfl | decide)) | refine At.new_ne ?_)))⟩ (fun k hk => ?_) (fun hk => ?_) (sm.set (by omega) (by omega))
    · show (if k = i then nI (b i + b (prL la i) / 10 - b i / 10) else g k) = nI (ppB b la (i + 1) k)
      rw [ppB_next]
      by_cases e : k = i
      · rw [if_pos e, if_pos e]
        exact congrArg nI (if_pos hi2).symm
      · rw [if_neg e, if_neg e, hg k hk]
    · rfl

set_option maxHeartbeats 4000000 in
set_option maxRecDepth 100000 in
theorem s_stir {j se wy la : Nat} {b r : Nat → Nat} (jr : JaR h0 j b se wy r) (hs : su b 6 ≤ 1200) (hla : la ≤ 6) : RQ G mX4_stir d 0 [some (.ref j), some (.int (nI la)), none, none, none] [] h0 (Rv fun h1 => JaR h1 j (stB b la) se wy r ∧ Sm h0 h1 j (j + 5)) := by
  obtain ⟨bf, p, wn, l, tu, fi, ma, co, ⟨a0, a1, a2, a3, a4⟩, hbf, -⟩ := jr
  refine tX4_stir_0  (r := ?_)
  refine tX4_stir_1  (kt := fun c_1 => ?_) (kf := fun c_1 => ?_)
  · have z0 : la = 0 := by rw [ci_le0 (by omega)] at c_1; exact c_1
    refine tX4_stir_24  (r := ?_)
    refine tX4_stir_25  (r := ?_)
    refine tX4_stir_26  (r := ?_)
    refine tX4_stir_27  (r := ?_)
    exact s_stir_l hs hla la 0 h0 bf (nI 0) none (by omega) (by omega) ⟨a0, a1, a2, a3, a4⟩ (fun k hk => by rw [ppB_0]; exact hbf k hk) (fun hk => absurd hk (by omega)) (Sm.rf _ _ _)
  · have z1 : 1 ≤ la := Nat.pos_of_ne_zero (fun z => c_1 (by rw [z]; decide))
    refine tX4_stir_4  (r := ?_)
    refine tX4_stir_5  (r := ?_)
    refine tX4_stir_7  (kt := fun c_ => by exfalso; exact absurd ((nI_ltI (by decide) (by omega)).mp c_) (by omega)) (kf := fun _ => ?_)
    refine tX4_stir_10  (r := ?_)
    refine tX4_stir_11 (ha := (by first | assumption | (repeat (first | assumption | exact At.set_eq2 (by first | omega | (simp only [hset, hnew]; omega) | rfl | decide) | exact At.new_eq2 _ _ (by first | omega | (simp only [hset, hnew]; omega) | rfl | decide) | refine At.set_ne ?_ (by first | omega | (simp only [hset, hnew]; omega) | rfl | decide) | refine At.new_ne ?_)))) (hv := rfl) (r := ?_)
    refine tX4_stir_14  (r := ?_)
    refine tX4_stir_15  (r := ?_)
    refine tX4_stir_16  (r := ?_)
    rw [nI_subN (by omega) (by omega)]
    refine tX4_stir_17 (ha := (by first | assumption | (repeat (first | assumption | exact At.set_eq2 (by first | omega | (simp only [hset, hnew]; omega) | rfl | decide) | exact At.new_eq2 _ _ (by first | omega | (simp only [hset, hnew]; omega) | rfl | decide) | refine At.set_ne ?_ (by first | omega | (simp only [hset, hnew]; omega) | rfl | decide) | refine At.new_ne ?_)))) (hx := rfl) (hj := (by omega)) (hn := (by decide)) (r := ?_)
    rw [hbf _ (by omega)]
    have w2 := su_mem (f := b) (n := 6) (a := la - 1) (by omega)
    refine tX4_stir_18  (r := ?_)
    refine tX4_stir_20 (hne := (by decide)) (r := ?_)
    rw [pk_div (by omega) (by decide) (by decide)]
    refine tX4_stir_21 (r := ?_)
    refine tX4_stir_25  (r := ?_)
    refine tX4_stir_26  (r := ?_)
    refine tX4_stir_27  (r := ?_)
    exact s_stir_l hs hla la 0 h0 bf _ none (by omega) (by omega) ⟨a0, a1, a2, a3, a4⟩ (fun k hk => by rw [ppB_0]; exact hbf k hk) (fun _ => rfl) (Sm.rf _ _ _)

theorem MoT.shak {m : Nat} {th : Int32} (c : MoT h m th s) (f : Nat → Int32) : MoT (hset h (m + 52) (.inl (0, 6, .inl f))) m th s := by
  obtain ⟨⟨f1, z1⟩, ⟨f2, z2⟩, ⟨f3, z3⟩, ⟨f4, z4⟩⟩ := c.w4
  have l3 := z4.1
  exact c.work ((Sm.rf _ _ _).set (by omega) (by omega)) ⟨f1, by (first | assumption | (repeat (first | assumption | exact At.set_eq2 (by (first | omega | (simp only [hset, hnew]; omega) | rfl | decide)) | exact At.new_eq2 _ _ (by (first | omega | (simp only [hset, hnew]; omega) | rfl | decide)) | refine At.set_ne ?_ (by (first | omega | (simp only [hset, hnew]; omega) | rfl | decide)) | refine At.new_ne ?_)))⟩ ⟨f2, by (first | assumption | (repeat (first | assumption | exact At.set_eq2 (by (first | omega | (simp only [hset, hnew]; omega) | rfl | decide)) | exact At.new_eq2 _ _ (by (first | omega | (simp only [hset, hnew]; omega) | rfl | decide)) | refine At.set_ne ?_ (by (first | omega | (simp only [hset, hnew]; omega) | rfl | decide)) | refine At.new_ne ?_)))⟩ ⟨f3, by (first | assumption | (repeat (first | assumption | exact At.set_eq2 (by (first | omega | (simp only [hset, hnew]; omega) | rfl | decide)) | exact At.new_eq2 _ _ (by (first | omega | (simp only [hset, hnew]; omega) | rfl | decide)) | refine At.set_ne ?_ (by (first | omega | (simp only [hset, hnew]; omega) | rfl | decide)) | refine At.new_ne ?_)))⟩ ⟨f, At.set_eq2 l3⟩

set_option maxHeartbeats 4000000 in
set_option maxRecDepth 100000 in
theorem k_shake_ok (hd : 7 ≤ d) (c : ClR h 0 bk dr s) (hb : BDok s.2.2.1 s.2.2.2) (hh : 216 ≤ h.1) {j0 : Nat} (q0 : j0 < bJa s.2.2.1) : RQ G mX10_shake d 0 [some (.ref 0), some (.int (nI j0))] [] h (CK h bk dr (s.1, s.2.1, s.2.2.1, (jrB s.2.2.2 j0 (stB (dB s.2.2.2 j0) (bLa s.2.2.1)))) "java/lang/IndexOutOfBoundsException" "" 0 (oI (fiN (po (rt (dF (jrB s.2.2.2 j0 (stB (dB s.2.2.2 j0) (bLa s.2.2.1))))) (dB (jrB s.2.2.2 j0 (stB (dB s.2.2.2 j0) (bLa s.2.2.1))) j0)) 6))) := by
  have c1 := c.poll
  have cb := c.book
  obtain ⟨jf, lj, fo, le, u0, u1, u2, u3, u4, u5, u6, u7, u8, u9⟩ := id c.2.2.2.2.1
  have l1 := hb.1
  have l2 := hb.2.1
  have l3 := hb.2.2.1
  obtain ⟨bf, p, w, l, tu, fi, ma, co, ⟨b0, b1, b2, b3, b4⟩, hb2, hb3⟩ := u9 j0 (by omega)
  refine tX10_shake_0  (r := ?_)
  refine tX10_shake_1  (r := ?_)
  refine tX10_shake_2 (hd := (by omega)) (ha := (by first | assumption | (repeat (first | assumption | exact At.set_eq2 (by first | omega | (simp only [hset, hnew]; omega) | rfl | decide) | exact At.new_eq2 _ _ (by first | omega | (simp only [hset, hnew]; omega) | rfl | decide) | refine At.set_ne ?_ (by first | omega | (simp only [hset, hnew]; omega) | rfl | decide) | refine At.new_ne ?_)))) (call := s_checkJar_ok (d := 6) (QX := fun _ _ => False) c hb q0) (kx := fun E_ h_ hx_ => by exact hx_.elim) (k := ?_)
  intro h_ e0
  rw [e0]
  refine tX10_shake_5  (r := ?_)
  refine tX10_shake_6 (ha := (by first | assumption | (repeat (first | assumption | exact At.set_eq2 (by first | omega | (simp only [hset, hnew]; omega) | rfl | decide) | exact At.new_eq2 _ _ (by first | omega | (simp only [hset, hnew]; omega) | rfl | decide) | refine At.set_ne ?_ (by first | omega | (simp only [hset, hnew]; omega) | rfl | decide) | refine At.new_ne ?_)))) (hv := rfl) (r := ?_)
  refine tX10_shake_9 (ha := (by first | assumption | (repeat (first | assumption | exact At.set_eq2 (by first | omega | (simp only [hset, hnew]; omega) | rfl | decide) | exact At.new_eq2 _ _ (by first | omega | (simp only [hset, hnew]; omega) | rfl | decide) | refine At.set_ne ?_ (by first | omega | (simp only [hset, hnew]; omega) | rfl | decide) | refine At.new_ne ?_)))) (hv := rfl) (r := ?_)
  refine tX10_shake_12  (r := ?_)
  refine tX10_shake_13 (ha := (by first | assumption | (repeat (first | assumption | exact At.set_eq2 (by first | omega | (simp only [hset, hnew]; omega) | rfl | decide) | exact At.new_eq2 _ _ (by first | omega | (simp only [hset, hnew]; omega) | rfl | decide) | refine At.set_ne ?_ (by first | omega | (simp only [hset, hnew]; omega) | rfl | decide) | refine At.new_ne ?_)))) (hx := rfl) (hj := (by omega)) (hn := (by decide)) (hf := (u5 _ (by omega))) (r := ?_)
  refine tX10_shake_14  (r := ?_)
  refine tX10_shake_15 (ha := (by first | assumption | (repeat (first | assumption | exact At.set_eq2 (by first | omega | (simp only [hset, hnew]; omega) | rfl | decide) | exact At.new_eq2 _ _ (by first | omega | (simp only [hset, hnew]; omega) | rfl | decide) | refine At.set_ne ?_ (by first | omega | (simp only [hset, hnew]; omega) | rfl | decide) | refine At.new_ne ?_)))) (hv := rfl) (r := ?_)
  refine tX10_shake_18 (ha := (by first | assumption | (repeat (first | assumption | exact At.set_eq2 (by first | omega | (simp only [hset, hnew]; omega) | rfl | decide) | exact At.new_eq2 _ _ (by first | omega | (simp only [hset, hnew]; omega) | rfl | decide) | refine At.set_ne ?_ (by first | omega | (simp only [hset, hnew]; omega) | rfl | decide) | refine At.new_ne ?_)))) (hv := rfl) (r := ?_)
  refine tX10_shake_21 (hd := (by omega)) (ha := (by first | assumption | (repeat (first | assumption | exact At.set_eq2 (by first | omega | (simp only [hset, hnew]; omega) | rfl | decide) | exact At.new_eq2 _ _ (by first | omega | (simp only [hset, hnew]; omega) | rfl | decide) | refine At.set_ne ?_ (by first | omega | (simp only [hset, hnew]; omega) | rfl | decide) | refine At.new_ne ?_)))) (call := s_stir (d := 5) (u9 j0 (by omega)) (hb.2.2.2.2.2.2.1 j0 (by omega)) hb.1) (k := ?_)
  intro h2 hq
  obtain ⟨jr, sm1⟩ := hq
  have c9 : ClR h2 0 bk dr (s.1, s.2.1, s.2.2.1, (jrB s.2.2.2 j0 (stB (dB s.2.2.2 j0) (bLa s.2.2.1)))) := c.now (c.2.2.2.2.1.setB (by omega) jr sm1) sm1 (by omega) (by omega)
  have hb9 : BDok s.2.2.1 (jrB s.2.2.2 j0 (stB (dB s.2.2.2 j0) (bLa s.2.2.1))) := hb.st q0
  have c1 := c9.poll
  obtain ⟨jfa, lja, foa, lea, ua0, -⟩ := id c9.2.2.2.2.1
  refine tX10_shake_24  (r := ?_)
  refine tX10_shake_25 (ha := (by first | assumption | (repeat (first | assumption | exact At.set_eq2 (by first | omega | (simp only [hset, hnew]; omega) | rfl | decide) | exact At.new_eq2 _ _ (by first | omega | (simp only [hset, hnew]; omega) | rfl | decide) | refine At.set_ne ?_ (by first | omega | (simp only [hset, hnew]; omega) | rfl | decide) | refine At.new_ne ?_)))) (hv := rfl) (r := ?_)
  refine tX10_shake_28  (r := ?_)
  refine tX10_shake_29 (hd := (by omega)) (ha := (by first | assumption | (repeat (first | assumption | exact At.set_eq2 (by first | omega | (simp only [hset, hnew]; omega) | rfl | decide) | exact At.new_eq2 _ _ (by first | omega | (simp only [hset, hnew]; omega) | rfl | decide) | refine At.set_ne ?_ (by first | omega | (simp only [hset, hnew]; omega) | rfl | decide) | refine At.new_ne ?_)))) (call := (s_counted (d := 3) (by decide) c9.2.2.2.2.1 hb9 (show j0 < 8 by omega)).imp (fun o9 h9 q9 => (⟨_, q9.1, rfl, q9.2⟩ : Rr (fun r h1 => r = 0 + 66 + 5 + 5 * j0 ∧ JaC h1 (0 + 66 + 5 + 5 * j0) (dB (jrB s.2.2.2 j0 (stB (dB s.2.2.2 j0) (bLa s.2.2.1))) j0) (bSe s.2.2.1 j0) (bWy s.2.2.1 j0) (rt (dF (jrB s.2.2.2 j0 (stB (dB s.2.2.2 j0) (bLa s.2.2.1))))) ∧ CuR h1 (0 + 66) s.2.2.1 (jrB s.2.2.2 j0 (stB (dB s.2.2.2 j0) (bLa s.2.2.1))) ∧ Sm h2 h1 (0 + 66 + 5 + 5 * j0) (0 + 66 + 5 + 5 * j0 + 5)) o9 h9))) (k := ?_)
  rintro jj h1 ⟨rfl, q9⟩
  obtain ⟨jc, cu, sm2⟩ := q9
  have cl := c9.now cu sm2 (by omega) (by omega)
  have chh : Ch h h1 0 216 0 0 := (sm1.sub (lo2 := 66) (hi2 := 111) (by omega) (by omega)).trans (sm2.sub (by omega) (by omega)) |>.ch (by omega) (by omega)
  obtain ⟨bf, p, w, l, tu, fi, ma, ⟨b0, b1, b2, b3, b4⟩, hb2, cp, cw_, ct, cf, cm⟩ := jc
  refine tX10_shake_32 (ha := (by first | assumption | (repeat (first | assumption | exact At.set_eq2 (by first | omega | (simp only [hset, hnew]; omega) | rfl | decide) | exact At.new_eq2 _ _ (by first | omega | (simp only [hset, hnew]; omega) | rfl | decide) | refine At.set_ne ?_ (by first | omega | (simp only [hset, hnew]; omega) | rfl | decide) | refine At.new_ne ?_)))) (hv := rfl) (r := ?_)
  rw [cf]
  refine tX10_shake_35  (hP := ?_)
  exact ck_val cl chh

end SH