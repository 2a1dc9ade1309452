/-! the digest: numbers taken in -/
/-- one number more -/
def dgS (d : Int64) (x : Int32) : Int64 := d * lN 31 + x.toInt64
/-- n numbers of a row -/
def dgR (f : Nat → Int32) (d : Int64) : Nat → Int64
  | 0 => d
  | n + 1 => dgS (dgR f d n) (f n)
section DG
variable {G : GT} {d : Nat} {h : AH} {P : OC → AH → Prop}

set_option maxHeartbeats 4000000 in
set_option maxRecDepth 100000 in
theorem s_dg1 {a : Nat} {f : Nat → Int32} {d0 : Int64} {x1 x4 x5 : Option Value} (a0 : At h a (.inl (0, 6, .inl f))) (o1 : ok1 x1 = true) (o5 : ok1 x5 = true) (kk : ∀ y : Option Value, ok1 y = true → RQ G mX12_digest d 108 [some (.ref 216), x1, some (.long (dgR f d0 6)), none, some (.ref a), some (.int (nI 6)), some (.int (nI 6)), y, x4, x5] [] h P) : ∀ (n i : Nat) (y : Option Value), 6 ≤ i + n → i ≤ 6 → ok1 y = true → RQ G mX12_digest d 78 [some (.ref 216), x1, some (.long (dgR f d0 i)), none, some (.ref a), some (.int (nI 6)), some (.int (nI i)), y, x4, x5] [] h (P) := by
  have ex : ∀ (i : Nat) (y : Option Value), i = 6 → ok1 y = true → RQ G mX12_digest d 78 [some (.ref 216), x1, some (.long (dgR f d0 i)), none, some (.ref a), some (.int (nI 6)), some (.int (nI i)), y, x4, x5] [] h (P) := by
    intro i y hi oy
    subst hi
    refine tX12_digest_78  (r := ?_)
    refine tX12_digest_80  (r := ?_)
    refine tX12_digest_82  (kf := fun c_ => by exfalso; exact c_ (by decide)) (kt := fun _ => ?_)
    exact kk y oy
  intro n
  induction n with
  | zero => exact fun i y h1_ h2_ => ex i y (by omega)
  | succ n ih =>
    intro i y h1_ h2_ oy
    by_cases hi : i = 6
    · exact ex i y hi oy
    have hi2 : i < 6 := by omega
    refine tX12_digest_78  (r := ?_)
    refine tX12_digest_80  (r := ?_)
    refine tX12_digest_82  (kt := fun c_ => by exfalso; exact absurd ((nI_leI (by decide) (by omega)).mp c_) (by omega)) (kf := fun _ => ?_)
    refine tX12_digest_85  (r := ?_)
    refine tX12_digest_87  (r := ?_)
    refine tX12_digest_89 (ha := a0) (hx := rfl) (hj := hi2) (hn := (by decide)) (r := ?_)
    refine tX12_digest_90  (r := ?_)
    refine tX12_digest_92  (r := ?_)
    refine tX12_digest_93  (r := ?_)
    refine tX12_digest_96  (r := ?_)
    refine tX12_digest_97  (r := ?_)
    refine tX12_digest_99  (r := ?_)
    refine tX12_digest_100  (r := ?_)
    refine tX12_digest_101 (ho := o1) (r := ?_)
    refine tX12_digest_102  (r := ?_)
    rw [nI_add]
    refine tX12_digest_105 (r := ?_)
    exact ih (i + 1) _ (by omega) (by omega) rfl

set_option maxHeartbeats 4000000 in
set_option maxRecDepth 100000 in
theorem s_dg2 {a : Nat} {f : Nat → Int32} {d0 : Int64} {x1 x4 x5 : Option Value} (a0 : At h a (.inl (0, 5, .inl f))) (o1 : ok1 x1 = true) (o5 : ok1 x5 = true) (kk : ∀ y : Option Value, ok1 y = true → RQ G mX12_digest d 223 [some (.ref 216), x1, some (.long (dgR f d0 5)), none, x4, x5, some (.ref a), some (.int (nI 5)), some (.int (nI 5)), y] [] h P) : ∀ (n i : Nat) (y : Option Value), 5 ≤ i + n → i ≤ 5 → ok1 y = true → RQ G mX12_digest d 193 [some (.ref 216), x1, some (.long (dgR f d0 i)), none, x4, x5, some (.ref a), some (.int (nI 5)), some (.int (nI i)), y] [] h (P) := by
  have ex : ∀ (i : Nat) (y : Option Value), i = 5 → ok1 y = true → RQ G mX12_digest d 193 [some (.ref 216), x1, some (.long (dgR f d0 i)), none, x4, x5, some (.ref a), some (.int (nI 5)), some (.int (nI i)), y] [] h (P) := by
    intro i y hi oy
    subst hi
    refine tX12_digest_193  (r := ?_)
    refine tX12_digest_195  (r := ?_)
    refine tX12_digest_197  (kf := fun c_ => by exfalso; exact c_ (by decide)) (kt := fun _ => ?_)
    exact kk y oy
  intro n
  induction n with
  | zero => exact fun i y h1_ h2_ => ex i y (by omega)
  | succ n ih =>
    intro i y h1_ h2_ oy
    by_cases hi : i = 5
    · exact ex i y hi oy
    have hi2 : i < 5 := by omega
    refine tX12_digest_193  (r := ?_)
    refine tX12_digest_195  (r := ?_)
    refine tX12_digest_197  (kt := fun c_ => by exfalso; exact absurd ((nI_leI (by decide) (by omega)).mp c_) (by omega)) (kf := fun _ => ?_)
    refine tX12_digest_200  (r := ?_)
    refine tX12_digest_202  (r := ?_)
    refine tX12_digest_204 (ha := a0) (hx := rfl) (hj := hi2) (hn := (by decide)) (r := ?_)
    refine tX12_digest_205  (r := ?_)
    refine tX12_digest_207  (r := ?_)
    refine tX12_digest_208  (r := ?_)
    refine tX12_digest_211  (r := ?_)
    refine tX12_digest_212  (r := ?_)
    refine tX12_digest_214  (r := ?_)
    refine tX12_digest_215  (r := ?_)
    refine tX12_digest_216 (ho := o1) (r := ?_)
    refine tX12_digest_217  (r := ?_)
    rw [nI_add]
    refine tX12_digest_220 (r := ?_)
    exact ih (i + 1) _ (by omega) (by omega) rfl

set_option maxHeartbeats 4000000 in
set_option maxRecDepth 100000 in
theorem s_dg3 {a : Nat} {f : Nat → Int32} {d0 : Int64} {x1 x4 x5 : Option Value} (a0 : At h a (.inl (0, 6, .inl f))) (o1 : ok1 x1 = true) (o5 : ok1 x5 = true) (kk : ∀ y : Option Value, ok1 y = true → RQ G mX12_digest d 350 [some (.ref 216), x1, some (.long (dgR f d0 6)), none, x4, x5, some (.ref a), some (.int (nI 6)), some (.int (nI 6)), y] [] h P) : ∀ (n i : Nat) (y : Option Value), 6 ≤ i + n → i ≤ 6 → ok1 y = true → RQ G mX12_digest d 320 [some (.ref 216), x1, some (.long (dgR f d0 i)), none, x4, x5, some (.ref a), some (.int (nI 6)), some (.int (nI i)), y] [] h (P) := by
  have ex : ∀ (i : Nat) (y : Option Value), i = 6 → ok1 y = true → RQ G mX12_digest d 320 [some (.ref 216), x1, some (.long (dgR f d0 i)), none, x4, x5, some (.ref a), some (.int (nI 6)), some (.int (nI i)), y] [] h (P) := by
    intro i y hi oy
    subst hi
    refine tX12_digest_320  (r := ?_)
    refine tX12_digest_322  (r := ?_)
    refine tX12_digest_324  (kf := fun c_ => by exfalso; exact c_ (by decide)) (kt := fun _ => ?_)
    exact kk y oy
  intro n
  induction n with
  | zero => exact fun i y h1_ h2_ => ex i y (by omega)
  | succ n ih =>
    intro i y h1_ h2_ oy
    by_cases hi : i = 6
    · exact ex i y hi oy
    have hi2 : i < 6 := by omega
    refine tX12_digest_320  (r := ?_)
    refine tX12_digest_322  (r := ?_)
    refine tX12_digest_324  (kt := fun c_ => by exfalso; exact absurd ((nI_leI (by decide) (by omega)).mp c_) (by omega)) (kf := fun _ => ?_)
    refine tX12_digest_327  (r := ?_)
    refine tX12_digest_329  (r := ?_)
    refine tX12_digest_331 (ha := a0) (hx := rfl) (hj := hi2) (hn := (by decide)) (r := ?_)
    refine tX12_digest_332  (r := ?_)
    refine tX12_digest_334  (r := ?_)
    refine tX12_digest_335  (r := ?_)
    refine tX12_digest_338  (r := ?_)
    refine tX12_digest_339  (r := ?_)
    refine tX12_digest_341  (r := ?_)
    refine tX12_digest_342  (r := ?_)
    refine tX12_digest_343 (ho := o1) (r := ?_)
    refine tX12_digest_344  (r := ?_)
    rw [nI_add]
    refine tX12_digest_347 (r := ?_)
    exact ih (i + 1) _ (by omega) (by omega) rfl

end DG
