/-! what nodes come to by hand -/
/-- the cupboard by hand, its places told; tn: a row that is not of it -/
def HaX (h : AH) (c : Nat) (B : BK) (D : DY) (Rs : Nat → List ERu) (tn fo ja li : Nat) (xj yl rl : Nat → Nat) (jf lf : Nat → Option Nat) : Prop := ∃ (bj : Nat → Nat) (ff : Nat → Int32), (216 ≤ c ∧ 216 ≤ fo ∧ 216 ≤ ja ∧ 216 ≤ li) ∧ At h c (.inr (10, [.ref fo, .ref ja, .ref li, .int (dDay D)])) ∧ (At h fo (.inl (0, bLa B, .inl ff)) ∧ ∀ k, k < bLa B → ff k = oI (dF D k)) ∧ (At h ja (.inl (5, bJa B, .inr (.inr (.inr (.inr jf))))) ∧ ∀ j, j < bJa B → jf j = some (xj j)) ∧ (At h li (.inl (6, bLi B, .inr (.inr (.inr (.inr lf))))) ∧ ∀ i, i < bLi B → lf i = some (yl i)) ∧ (∀ j, j < bJa B → JhR h (xj j) (bj j) (bLa B) (bSe B j) (bWy B j) (dB D j)) ∧ (∀ i, i < bLi B → LhR h (yl i) (rl i) (dL D i) (bLl B i) (Rs i)) ∧ (∀ j, j < bJa B → bj j ≠ fo) ∧ (∀ i j, i < bJa B → j < bJa B → i ≠ j → xj i ≠ xj j ∧ bj i ≠ bj j) ∧ (∀ i j, i < bLi B → j < bLi B → i ≠ j → yl i ≠ yl j) ∧ fo ≠ tn ∧ ∀ j, j < bJa B → bj j ≠ tn
section HV
variable {G : GT} {d : Nat} {h : AH} {c i : Nat} {B : BK} {D : DY} {Rs : Nat → List ERu} {tn fo ja li : Nat} {xj yl rl : Nat → Nat} {jf lf : Nat → Option Nat}
theorem HaX.to (q : HaX h c B D Rs tn fo ja li xj yl rl jf lf) : HaR h c B D Rs := by
  obtain ⟨bj, ff, a1, a2, a3, a4, a5, a6, a7, a8, a9, a10, -⟩ := q
  exact ⟨fo, ja, li, xj, bj, yl, rl, ff, jf, lf, a1, a2, a3, a4, a5, a6, a7, a8, a9, a10⟩
theorem HaR.x (q : HaR h c B D Rs) (tn : Nat) (ht : tn < 216 ∨ h.1 ≤ tn) : ∃ fo ja li, ∃ xj yl rl : Nat → Nat, ∃ jf lf : Nat → Option Nat, HaX h c B D Rs tn fo ja li xj yl rl jf lf := by
  obtain ⟨fo, ja, li, xj, bj, yl, rl, ff, jf, lf, a1, a2, a3, a4, a5, a6, a7, a8, a9, a10⟩ := q
  refine ⟨fo, ja, li, xj, yl, rl, jf, lf, bj, ff, a1, a2, a3, a4, a5, a6, a7, a8, a9, a10, ?_, fun j hj => ?_⟩
  · have := a1.2.1
    have := a3.1.1
    omega
  · obtain ⟨q1, q2, q3, bf, q4, q5⟩ := a6 j hj
    have := q4.1
    omega
theorem HaX.k6 {h1 : AH} (q : HaX h c B D Rs tn fo ja li xj yl rl jf lf) (k : Kp6 h h1) : HaX h1 c B D Rs tn fo ja li xj yl rl jf lf := by
  obtain ⟨bj, ff, ⟨a1, a2, a3, a4⟩, a5, ⟨a6, a7⟩, ⟨a8, a9⟩, ⟨a10, a11⟩, a12, a13, a14⟩ := q
  exact ⟨bj, ff, ⟨a1, a2, a3, a4⟩, k.at a1 a5, ⟨k.at a2 a6, a7⟩, ⟨k.at a3 a8, a9⟩, ⟨k.at a4 a10, a11⟩, fun j hj => (a12 j hj).k6 k, fun i hi => (a13 i hi).k6 k, a14⟩
theorem BDok.dj (hb : BDok B D) (hi : i < bLi B) : bLl B i < bLa B ∧ dL D i < bJa B := hb.2.2.2.2.2.2.2.1 i hi
theorem iU {a b : Nat} (ha : a < 2147483648) (hb : b < 2147483648) {x : Int32} (e : x = nI a) : (x = nI b) ↔ a = b := by rw [e]; exact nI_eq ha hb

set_option maxHeartbeats 4000000 in
theorem s_nvLf (hd : 10 ≤ d) (hb : BDok B D) (ha : HaX h c B D Rs tn fo ja li xj yl rl jf lf) (hi : i < bLi B) {a : Nat} {l : ELf} (ok : okL (bLa B) l) (q : LfR h a l) : RQ G mX16_value_ d 0 [some (.ref a), some (.ref c), some (.ref (yl i)), none] [] h (Ri fun r h1 => r = vLf B D i l ∧ Ch h h1 0 0 16 104) := by
  have la6 := hb.1
  have ja8 := hb.2.1
  obtain ⟨ldl, dj⟩ := hb.dj hi
  obtain ⟨bj, ff, ⟨a1, a2, a3, a4⟩, a5, ⟨a6, a7⟩, ⟨a8, a9⟩, ⟨a10, a11⟩, a12, a13, a14⟩ := id ha
  obtain ⟨l1, l2, l3, rf, l4, l5⟩ := a13 i hi
  have jh := a12 (dL D i) dj
  obtain ⟨j1, j2, j3, bf, j4, j5⟩ := id jh
  have foq := ha.to.fo
  have b0 := hb.b0 dj
  have bs := hb.bs9 dj
  obtain ⟨so, n⟩ := l
  have q2 := q.2
  rcases ok with ⟨z, h2⟩ | ⟨z, h2⟩ | ⟨z | z, h2⟩ <;> (have z : so = _ := z; subst z)
  · skip
    refine tX16_value__0  (r := ?_)
    refine tX16_value__1 (ha := a5) (hv := rfl) (r := ?_)
    refine tX16_value__4  (r := ?_)
    refine tX16_value__5 (ha := l3) (hv := rfl) (r := ?_)
    refine tX16_value__8 (t := 5) (j := dL D i) (ha := a8) (ht := rfl) (hx := rfl) (hj := dj) (hn := (by omega)) (hf := (a9 _ dj)) (r := ?_)
    refine tX16_value__9  (r := ?_)
    refine tX16_value__10  (r := ?_)
    refine tX16_value__11 (ha := q.2) (hv := rfl) (r := ?_)
    refine tX16_value__14 (n := 0) (hn := (by decide)) (r := ?_)
    show RQ _ _ _ 80 _ _ _ _
    refine tX16_value__80  (r := ?_)
    refine tX16_value__81 (ha := q.2) (hv := rfl) (r := ?_)
    refine tX16_value__84  (hP := ?_)
    exact ⟨_, rfl, rfl, Ch.rf h 0 0 16 104⟩
  · have h2 : n < 3 := h2
    rcases (by omega : n = 0 ∨ n = 1 ∨ n = 2) with rfl | rfl | rfl
    · skip
      refine tX16_value__0  (r := ?_)
      refine tX16_value__1 (ha := a5) (hv := rfl) (r := ?_)
      refine tX16_value__4  (r := ?_)
      refine tX16_value__5 (ha := l3) (hv := rfl) (r := ?_)
      refine tX16_value__8 (t := 5) (j := dL D i) (ha := a8) (ht := rfl) (hx := rfl) (hj := dj) (hn := (by omega)) (hf := (a9 _ dj)) (r := ?_)
      refine tX16_value__9  (r := ?_)
      refine tX16_value__10  (r := ?_)
      refine tX16_value__11 (ha := q.2) (hv := rfl) (r := ?_)
      refine tX16_value__14 (n := 1) (hn := (by decide)) (r := ?_)
      show RQ _ _ _ 85 _ _ _ _
      refine tX16_value__85  (r := ?_)
      refine tX16_value__86 (ha := q.2) (hv := rfl) (r := ?_)
      refine tX16_value__89  (kt := fun c_ => by exfalso; first | exact absurd c_ (by decide) | exact c_ rfl) (kf := fun _ => ?_)
      refine tX16_value__92  (r := ?_)
      refine tX16_value__93 (ha := a5) (hv := rfl) (r := ?_)
      refine tX16_value__96 (r := ?_)
      refine tX16_value__120  (hP := ?_)
      exact ⟨_, rfl, rfl, Ch.rf h 0 0 16 104⟩
    · skip
      refine tX16_value__0  (r := ?_)
      refine tX16_value__1 (ha := a5) (hv := rfl) (r := ?_)
      refine tX16_value__4  (r := ?_)
      refine tX16_value__5 (ha := l3) (hv := rfl) (r := ?_)
      refine tX16_value__8 (t := 5) (j := dL D i) (ha := a8) (ht := rfl) (hx := rfl) (hj := dj) (hn := (by omega)) (hf := (a9 _ dj)) (r := ?_)
      refine tX16_value__9  (r := ?_)
      refine tX16_value__10  (r := ?_)
      refine tX16_value__11 (ha := q.2) (hv := rfl) (r := ?_)
      refine tX16_value__14 (n := 1) (hn := (by decide)) (r := ?_)
      show RQ _ _ _ 85 _ _ _ _
      refine tX16_value__85  (r := ?_)
      refine tX16_value__86 (ha := q.2) (hv := rfl) (r := ?_)
      refine tX16_value__89  (kf := fun c_ => by exfalso; first | exact absurd c_ (by decide) | exact c_ rfl) (kt := fun _ => ?_)
      refine tX16_value__99  (r := ?_)
      refine tX16_value__100 (ha := q.2) (hv := rfl) (r := ?_)
      refine tX16_value__103  (r := ?_)
      refine tX16_value__104  (kt := fun c_ => by exfalso; first | exact absurd c_ (by decide) | exact c_ rfl) (kf := fun _ => ?_)
      refine tX16_value__107  (r := ?_)
      refine tX16_value__108  (r := ?_)
      refine tX16_value__109 (hd := (by omega)) (ha := a5) (call := s_hmargin (d := d - 1) (by omega) hb.1 foq hb.hF hb.hR hb.hl jh b0 bs) (k := ?_)
      rintro v h_ ⟨ev, ch⟩
      rw [ev]
      refine tX16_value__112 (r := ?_)
      refine tX16_value__120  (hP := ?_)
      exact ⟨_, rfl, rfl, ch.sub (Nat.le_refl _) (Nat.le_refl _) (by decide) (by omega)⟩
    · skip
      refine tX16_value__0  (r := ?_)
      refine tX16_value__1 (ha := a5) (hv := rfl) (r := ?_)
      refine tX16_value__4  (r := ?_)
      refine tX16_value__5 (ha := l3) (hv := rfl) (r := ?_)
      refine tX16_value__8 (t := 5) (j := dL D i) (ha := a8) (ht := rfl) (hx := rfl) (hj := dj) (hn := (by omega)) (hf := (a9 _ dj)) (r := ?_)
      refine tX16_value__9  (r := ?_)
      refine tX16_value__10  (r := ?_)
      refine tX16_value__11 (ha := q.2) (hv := rfl) (r := ?_)
      refine tX16_value__14 (n := 1) (hn := (by decide)) (r := ?_)
      show RQ _ _ _ 85 _ _ _ _
      refine tX16_value__85  (r := ?_)
      refine tX16_value__86 (ha := q.2) (hv := rfl) (r := ?_)
      refine tX16_value__89  (kf := fun c_ => by exfalso; first | exact absurd c_ (by decide) | exact c_ rfl) (kt := fun _ => ?_)
      refine tX16_value__99  (r := ?_)
      refine tX16_value__100 (ha := q.2) (hv := rfl) (r := ?_)
      refine tX16_value__103  (r := ?_)
      refine tX16_value__104  (kf := fun c_ => by exfalso; first | exact absurd c_ (by decide) | exact c_ rfl) (kt := fun _ => ?_)
      refine tX16_value__115  (r := ?_)
      refine tX16_value__116  (r := ?_)
      refine tX16_value__117 (hd := (by omega)) (ha := a5) (call := s_hturn (d := d - 1) hb.1 jh) (k := ?_)
      rintro v h_ ⟨ev, e9⟩
      rw [ev, e9, su_six hb.1 b0]
      refine tX16_value__120  (hP := ?_)
      exact ⟨_, rfl, rfl, Ch.rf h 0 0 16 104⟩
  · have h2 : n < bLa B := h2
    refine tX16_value__0  (r := ?_)
    refine tX16_value__1 (ha := a5) (hv := rfl) (r := ?_)
    refine tX16_value__4  (r := ?_)
    refine tX16_value__5 (ha := l3) (hv := rfl) (r := ?_)
    refine tX16_value__8 (t := 5) (j := dL D i) (ha := a8) (ht := rfl) (hx := rfl) (hj := dj) (hn := (by omega)) (hf := (a9 _ dj)) (r := ?_)
    refine tX16_value__9  (r := ?_)
    refine tX16_value__10  (r := ?_)
    refine tX16_value__11 (ha := q.2) (hv := rfl) (r := ?_)
    refine tX16_value__14 (n := 2) (hn := (by decide)) (r := ?_)
    show RQ _ _ _ 121 _ _ _ _
    refine tX16_value__121  (r := ?_)
    refine tX16_value__122 (ha := j3) (hv := rfl) (r := ?_)
    refine tX16_value__125  (r := ?_)
    refine tX16_value__126 (ha := q.2) (hv := rfl) (r := ?_)
    refine tX16_value__129 (j := n) (ha := j4) (hx := rfl) (hj := h2) (hn := (by omega)) (r := ?_)
    rw [j5 n h2]
    refine tX16_value__130  (hP := ?_)
    exact ⟨_, rfl, rfl, Ch.rf h 0 0 16 104⟩
  · have h2 : n < bLa B := h2
    refine tX16_value__0  (r := ?_)
    refine tX16_value__1 (ha := a5) (hv := rfl) (r := ?_)
    refine tX16_value__4  (r := ?_)
    refine tX16_value__5 (ha := l3) (hv := rfl) (r := ?_)
    refine tX16_value__8 (t := 5) (j := dL D i) (ha := a8) (ht := rfl) (hx := rfl) (hj := dj) (hn := (by omega)) (hf := (a9 _ dj)) (r := ?_)
    refine tX16_value__9  (r := ?_)
    refine tX16_value__10  (r := ?_)
    refine tX16_value__11 (ha := q.2) (hv := rfl) (r := ?_)
    refine tX16_value__14 (n := 3) (hn := (by decide)) (r := ?_)
    show RQ _ _ _ 131 _ _ _ _
    refine tX16_value__131  (r := ?_)
    refine tX16_value__132  (r := ?_)
    refine tX16_value__133 (ha := q.2) (hv := rfl) (r := ?_)
    refine tX16_value__136 (hd := (by omega)) (ha := a5) (call := s_hseats (d := d - 1) (by omega) hb h2 ha.to) (k := ?_)
    rintro v h_ ⟨ev, ch⟩
    rw [ev]
    refine tX16_value__139  (hP := ?_)
    exact ⟨_, rfl, rfl, ch⟩
set_option maxHeartbeats 4000000 in
theorem s_both {s : Nat} (h1 : 4 ≤ s) (h2 : s ≤ 9) {x y : Int32} : RQ G mX16_both d 0 [some (.int (nI s)), some (.int x), some (.int y)] [] h (Ri fun r h1 => r = jnV (sgK s) x y ∧ h1 = h) := by
  rcases (by omega : s = 4 ∨ s = 5 ∨ s = 6 ∨ s = 7 ∨ s = 8 ∨ s = 9) with rfl | rfl | rfl | rfl | rfl | rfl
  · skip
    refine tX16_both_0  (r := ?_)
    refine tX16_both_1 (n := 4) (hn := (by decide)) (r := ?_)
    show RQ _ _ _ 60 _ _ _ _
    refine tX16_both_60  (r := ?_)
    refine tX16_both_61  (r := ?_)
    refine tX16_both_62  (r := ?_)
    refine tX16_both_63  (hP := ?_)
    exact ⟨_, rfl, rfl, rfl⟩
  · skip
    refine tX16_both_0  (r := ?_)
    refine tX16_both_1 (n := 5) (hn := (by decide)) (r := ?_)
    show RQ _ _ _ 64 _ _ _ _
    refine tX16_both_64  (r := ?_)
    refine tX16_both_65  (r := ?_)
    refine tX16_both_66  (r := ?_)
    refine tX16_both_67  (hP := ?_)
    exact ⟨_, rfl, rfl, rfl⟩
  · skip
    refine tX16_both_0  (r := ?_)
    refine tX16_both_1 (n := 6) (hn := (by decide)) (r := ?_)
    show RQ _ _ _ 68 _ _ _ _
    refine tX16_both_68  (r := ?_)
    refine tX16_both_69  (r := ?_)
    refine tX16_both_70  (r := ?_)
    refine tX16_both_71  (hP := ?_)
    exact ⟨_, rfl, rfl, rfl⟩
  · skip
    refine tX16_both_0  (r := ?_)
    refine tX16_both_1 (n := 7) (hn := (by decide)) (r := ?_)
    show RQ _ _ _ 88 _ _ _ _
    refine tX16_both_88  (r := ?_)
    refine tX16_both_89  (r := ?_)
    refine tX16_both_91  (kt := fun c_ => by exfalso; first | exact absurd c_ (by decide) | exact c_ rfl) (kf := fun _ => ?_)
    refine tX16_both_94  (r := ?_)
    refine tX16_both_95  (r := ?_)
    refine tX16_both_96  (kt := fun c_96 => ?_) (kf := fun c_96 => ?_)
    · refine tX16_both_125  (r := ?_)
      refine tX16_both_126  (hP := ?_)
      exact ⟨_, rfl, (if_neg (show ¬ x < y from Int32.not_lt.mpr c_96)).symm, rfl⟩
    · refine tX16_both_99 (r := ?_)
      refine tX16_both_121  (r := ?_)
      refine tX16_both_122 (r := ?_)
      refine tX16_both_126  (hP := ?_)
      exact ⟨_, rfl, (if_pos (show x < y from Int32.not_le.mp c_96)).symm, rfl⟩
  · skip
    refine tX16_both_0  (r := ?_)
    refine tX16_both_1 (n := 8) (hn := (by decide)) (r := ?_)
    show RQ _ _ _ 88 _ _ _ _
    refine tX16_both_88  (r := ?_)
    refine tX16_both_89  (r := ?_)
    refine tX16_both_91  (kf := fun c_ => by exfalso; first | exact absurd c_ (by decide) | exact c_ rfl) (kt := fun _ => ?_)
    refine tX16_both_102  (r := ?_)
    refine tX16_both_103  (r := ?_)
    refine tX16_both_105  (kt := fun c_ => by exfalso; first | exact absurd c_ (by decide) | exact c_ rfl) (kf := fun _ => ?_)
    refine tX16_both_108  (r := ?_)
    refine tX16_both_109  (r := ?_)
    refine tX16_both_110  (kt := fun c_110 => ?_) (kf := fun c_110 => ?_)
    · refine tX16_both_125  (r := ?_)
      refine tX16_both_126  (hP := ?_)
      exact ⟨_, rfl, (if_neg (show ¬ y < x from Int32.not_lt.mpr c_110)).symm, rfl⟩
    · refine tX16_both_113 (r := ?_)
      refine tX16_both_121  (r := ?_)
      refine tX16_both_122 (r := ?_)
      refine tX16_both_126  (hP := ?_)
      exact ⟨_, rfl, (if_pos (show y < x from Int32.not_le.mp c_110)).symm, rfl⟩
  · skip
    refine tX16_both_0  (r := ?_)
    refine tX16_both_1 (n := 9) (hn := (by decide)) (r := ?_)
    show RQ _ _ _ 88 _ _ _ _
    refine tX16_both_88  (r := ?_)
    refine tX16_both_89  (r := ?_)
    refine tX16_both_91  (kf := fun c_ => by exfalso; first | exact absurd c_ (by decide) | exact c_ rfl) (kt := fun _ => ?_)
    refine tX16_both_102  (r := ?_)
    refine tX16_both_103  (r := ?_)
    refine tX16_both_105  (kf := fun c_ => by exfalso; first | exact absurd c_ (by decide) | exact c_ rfl) (kt := fun _ => ?_)
    refine tX16_both_116  (r := ?_)
    refine tX16_both_117  (r := ?_)
    refine tX16_both_118  (kt := fun c_118 => ?_) (kf := fun c_118 => ?_)
    · refine tX16_both_125  (r := ?_)
      refine tX16_both_126  (hP := ?_)
      exact ⟨_, rfl, (if_neg (show ¬ x = y from c_118)).symm, rfl⟩
    · refine tX16_both_121  (r := ?_)
      refine tX16_both_122 (r := ?_)
      refine tX16_both_126  (hP := ?_)
      exact ⟨_, rfl, (if_pos (show x = y from c_118)).symm, rfl⟩
set_option maxHeartbeats 4000000 in
theorem s_bothA {x y : Int32} (hx : x = nI 0 ∨ x = nI 1) (hy : y = nI 0 ∨ y = nI 1) : RQ G mX16_both d 0 [some (.int (nI 13)), some (.int x), some (.int y)] [] h (Ri fun r h1 => r = jnV 16 x y ∧ h1 = h) := by
  refine tX16_both_0  (r := ?_)
  refine tX16_both_1 (n := 13) (hn := (by decide)) (r := ?_)
  show RQ _ _ _ 72 _ _ _ _
  refine tX16_both_72  (r := ?_)
  refine tX16_both_73  (r := ?_)
  refine tX16_both_74  (r := ?_)
  refine tX16_both_75  (hP := ?_)
  refine ⟨_, rfl, ?_, rfl⟩
  rcases hx with rfl | rfl <;> rcases hy with rfl | rfl <;> decide
set_option maxHeartbeats 4000000 in
theorem s_bothO {x y : Int32} (hx : x = nI 0 ∨ x = nI 1) (hy : y = nI 0 ∨ y = nI 1) : RQ G mX16_both d 0 [some (.int (nI 14)), some (.int x), some (.int y)] [] h (Ri fun r h1 => r = jnV 17 x y ∧ h1 = h) := by
  refine tX16_both_0  (r := ?_)
  refine tX16_both_1 (n := 14) (hn := (by decide)) (r := ?_)
  show RQ _ _ _ 76 _ _ _ _
  refine tX16_both_76  (r := ?_)
  refine tX16_both_77  (r := ?_)
  refine tX16_both_78  (r := ?_)
  refine tX16_both_79  (kt := fun c_79 => ?_) (kf := fun c_79 => ?_)
  · have e0 : x = nI 0 ∧ y = nI 0 := by
      rcases hx with rfl | rfl <;> rcases hy with rfl | rfl <;> first | exact ⟨rfl, rfl⟩ | exact absurd c_79 (by decide)
    refine tX16_both_86  (r := ?_)
    refine tX16_both_87  (hP := ?_)
    obtain ⟨rfl, rfl⟩ := e0
    exact ⟨_, rfl, by decide, rfl⟩
  · have e0 : ¬ (x = nI 0 ∧ y = nI 0) := fun z => by
      obtain ⟨rfl, rfl⟩ := z
      exact c_79 (by decide)
    refine tX16_both_82  (r := ?_)
    refine tX16_both_83 (r := ?_)
    refine tX16_both_87  (hP := ?_)
    refine ⟨_, rfl, ?_, rfl⟩
    rcases hx with rfl | rfl <;> rcases hy with rfl | rfl <;> first | exact absurd ⟨rfl, rfl⟩ e0 | decide
theorem sw_val : ∀ s, 4 ≤ s → s ≤ 9 → sw_X16_value_ s = 202 := by
  intro s h1 h2
  rcases (by omega : s = 4 ∨ s = 5 ∨ s = 6 ∨ s = 7 ∨ s = 8 ∨ s = 9) with rfl | rfl | rfl | rfl | rfl | rfl <;> rfl
theorem VaR.at9 {h : AH} {a : Nat} {e : EVa} (q : VaR h a e) : ∃ vs, At h a (.inr (14, vs)) := VaR.at q
set_option maxHeartbeats 4000000 in
theorem s_nvSg (hd : 11 ≤ d) (hb : BDok B D) (ha : HaX h c B D Rs tn fo ja li xj yl rl jf lf) (hi : i < bLi B) {a x y s : Nat} {l m : ELf} (hs : 4 ≤ s ∧ s ≤ 6) (ok1 : okL (bLa B) l) (ok2 : okL (bLa B) m) (q : NdR h a s 0 (some x) (some y)) (qx : LfR h x l) (qy : LfR h y m) : RQ G mX16_value_ d 0 [some (.ref a), some (.ref c), some (.ref (yl i)), none] [] h (Ri fun r h1 => r = vVa B D i (.inr (s, l, m)) ∧ Ch h h1 0 0 32 208) := by
  have hsw := sw_val s hs.1 (by omega)
  have la6 := hb.1
  have ja8 := hb.2.1
  obtain ⟨ldl, dj⟩ := hb.dj hi
  obtain ⟨bj, ff, ⟨a1, a2, a3, a4⟩, a5, ⟨a6, a7⟩, ⟨a8, a9⟩, ⟨a10, a11⟩, a12, a13, a14⟩ := id ha
  obtain ⟨l1, l2, l3, rf, l4, l5⟩ := a13 i hi
  have jh := a12 (dL D i) dj
  obtain ⟨j1, j2, j3, bf, j4, j5⟩ := id jh
  have foq := ha.to.fo
  have b0 := hb.b0 dj
  have bs := hb.bs9 dj
  refine tX16_value__0  (r := ?_)
  refine tX16_value__1 (ha := a5) (hv := rfl) (r := ?_)
  refine tX16_value__4  (r := ?_)
  refine tX16_value__5 (ha := l3) (hv := rfl) (r := ?_)
  refine tX16_value__8 (t := 5) (j := dL D i) (ha := a8) (ht := rfl) (hx := rfl) (hj := dj) (hn := (by omega)) (hf := (a9 _ dj)) (r := ?_)
  refine tX16_value__9  (r := ?_)
  refine tX16_value__10  (r := ?_)
  refine tX16_value__11 (ha := q.2) (hv := rfl) (r := ?_)
  refine tX16_value__14 (n := s) (hn := (by omega)) (r := ?_)
  rw [show sw_X16_value_ s = 202 from hsw]
  refine tX16_value__202  (r := ?_)
  refine tX16_value__203 (ha := q.2) (hv := rfl) (r := ?_)
  refine tX16_value__206  (r := ?_)
  refine tX16_value__207 (ha := q.2) (hv := rfl) (r := ?_)
  refine tX16_value__210  (r := ?_)
  refine tX16_value__211  (r := ?_)
  refine tX16_value__212 (hd := (by omega)) (ha := qx.2) (call := s_nvLf (d := d - 1) (by omega) hb ha hi ok1 qx) (k := ?_)
  rintro v1 w1 ⟨ev1, ch1⟩
  have k1 := Ch.k60 ch1
  have ha1 := ha.k6 k1
  have q1 := q.kp k1.i
  refine tX16_value__215  (r := ?_)
  refine tX16_value__216 (ha := q1.2) (hv := rfl) (r := ?_)
  refine tX16_value__219  (r := ?_)
  refine tX16_value__220  (r := ?_)
  refine tX16_value__221 (hd := (by omega)) (ha := (qy.kp k1.i).2) (call := s_nvLf (d := d - 1) (by omega) hb ha1 hi ok2 (qy.kp k1.i)) (k := ?_)
  rintro v2 w2 ⟨ev2, ch2⟩
  rw [ev1, ev2]
  refine tX16_value__224 (hd := (by omega)) (call := s_both hs.1 (by omega)) (k := ?_)
  rintro v3 h_ ⟨ev3, e9⟩
  rw [ev3, e9]
  refine tX16_value__227  (hP := ?_)
  exact ⟨_, rfl, rfl, (ch1.trans ch2).sub (Nat.le_refl _) (Nat.le_refl _) (by decide) (by decide)⟩
theorem s_nvVa (hd : 11 ≤ d) (hb : BDok B D) (ha : HaX h c B D Rs tn fo ja li xj yl rl jf lf) (hi : i < bLi B) {a : Nat} {e : EVa} (ok : okV (bLa B) e) (q : VaR h a e) : RQ G mX16_value_ d 0 [some (.ref a), some (.ref c), some (.ref (yl i)), none] [] h (Ri fun r h1 => r = vVa B D i e ∧ Ch h h1 0 0 32 208) := by
  match e, ok, q with
  | .inl l, ok, q => exact RQ.imp (s_nvLf (by omega) hb ha hi ok q) (fun _ _ ⟨r, e, s, ch⟩ => ⟨r, e, s, ch.sub (Nat.le_refl _) (Nat.le_refl _) (by decide) (by decide)⟩)
  | .inr (s, l, m), ⟨hs, ok1, ok2⟩, ⟨x, y, q1, q2, q3⟩ => exact s_nvSg hd hb ha hi hs ok1 ok2 q1 q2 q3
set_option maxHeartbeats 4000000 in
theorem s_nvCm (hd : 12 ≤ d) (hb : BDok B D) (ha : HaX h c B D Rs tn fo ja li xj yl rl jf lf) (hi : i < bLi B) {a x y s : Nat} {l : EVa} {m : ELf} (hs : 7 ≤ s ∧ s ≤ 9) (ok1 : okV (bLa B) l) (ok2 : okL (bLa B) m) (q : NdR h a s 0 (some x) (some y)) (qx : VaR h x l) (qy : LfR h y m) : RQ G mX16_value_ d 0 [some (.ref a), some (.ref c), some (.ref (yl i)), none] [] h (Ri fun r h1 => r = vT0 B D i (.inr (s, l, m)) ∧ Ch h h1 0 0 48 312) := by
  have hsw := sw_val s (by omega) hs.2
  have la6 := hb.1
  have ja8 := hb.2.1
  obtain ⟨ldl, dj⟩ := hb.dj hi
  obtain ⟨bj, ff, ⟨a1, a2, a3, a4⟩, a5, ⟨a6, a7⟩, ⟨a8, a9⟩, ⟨a10, a11⟩, a12, a13, a14⟩ := id ha
  obtain ⟨l1, l2, l3, rf, l4, l5⟩ := a13 i hi
  have jh := a12 (dL D i) dj
  obtain ⟨j1, j2, j3, bf, j4, j5⟩ := id jh
  have foq := ha.to.fo
  have b0 := hb.b0 dj
  have bs := hb.bs9 dj
  refine tX16_value__0  (r := ?_)
  refine tX16_value__1 (ha := a5) (hv := rfl) (r := ?_)
  refine tX16_value__4  (r := ?_)
  refine tX16_value__5 (ha := l3) (hv := rfl) (r := ?_)
  refine tX16_value__8 (t := 5) (j := dL D i) (ha := a8) (ht := rfl) (hx := rfl) (hj := dj) (hn := (by omega)) (hf := (a9 _ dj)) (r := ?_)
  refine tX16_value__9  (r := ?_)
  refine tX16_value__10  (r := ?_)
  refine tX16_value__11 (ha := q.2) (hv := rfl) (r := ?_)
  refine tX16_value__14 (n := s) (hn := (by omega)) (r := ?_)
  rw [show sw_X16_value_ s = 202 from hsw]
  refine tX16_value__202  (r := ?_)
  refine tX16_value__203 (ha := q.2) (hv := rfl) (r := ?_)
  refine tX16_value__206  (r := ?_)
  refine tX16_value__207 (ha := q.2) (hv := rfl) (r := ?_)
  refine tX16_value__210  (r := ?_)
  refine tX16_value__211  (r := ?_)
  refine tX16_value__212 (hd := (by omega)) (ha := qx.at.choose_spec) (call := s_nvVa (d := d - 1) (by omega) hb ha hi ok1 qx) (k := ?_)
  rintro v1 w1 ⟨ev1, ch1⟩
  have k1 := Ch.k60 ch1
  have ha1 := ha.k6 k1
  have q1 := q.kp k1.i
  refine tX16_value__215  (r := ?_)
  refine tX16_value__216 (ha := q1.2) (hv := rfl) (r := ?_)
  refine tX16_value__219  (r := ?_)
  refine tX16_value__220  (r := ?_)
  refine tX16_value__221 (hd := (by omega)) (ha := (qy.kp k1.i).2) (call := s_nvLf (d := d - 1) (by omega) hb ha1 hi ok2 (qy.kp k1.i)) (k := ?_)
  rintro v2 w2 ⟨ev2, ch2⟩
  rw [ev1, ev2]
  refine tX16_value__224 (hd := (by omega)) (call := s_both (by omega) hs.2) (k := ?_)
  rintro v3 h_ ⟨ev3, e9⟩
  rw [ev3, e9]
  refine tX16_value__227  (hP := ?_)
  exact ⟨_, rfl, rfl, (ch1.trans ch2).sub (Nat.le_refl _) (Nat.le_refl _) (by decide) (by decide)⟩
set_option maxHeartbeats 4000000 in
theorem s_nvFi (hd : 12 ≤ d) (hb : BDok B D) (ha : HaX h c B D Rs tn fo ja li xj yl rl jf lf) (hi : i < bLi B) {a l : Nat} (hl : l < bLa B) (q : NdR h a 10 l none none) : RQ G mX16_value_ d 0 [some (.ref a), some (.ref c), some (.ref (yl i)), none] [] h (Ri fun r h1 => r = vT0 B D i (.inl (10, l)) ∧ Ch h h1 0 0 48 312) := by
  have la6 := hb.1
  have ja8 := hb.2.1
  obtain ⟨ldl, dj⟩ := hb.dj hi
  obtain ⟨bj, ff, ⟨a1, a2, a3, a4⟩, a5, ⟨a6, a7⟩, ⟨a8, a9⟩, ⟨a10, a11⟩, a12, a13, a14⟩ := id ha
  obtain ⟨l1, l2, l3, rf, l4, l5⟩ := a13 i hi
  have jh := a12 (dL D i) dj
  obtain ⟨j1, j2, j3, bf, j4, j5⟩ := id jh
  have foq := ha.to.fo
  have b0 := hb.b0 dj
  have bs := hb.bs9 dj
  refine tX16_value__0  (r := ?_)
  refine tX16_value__1 (ha := a5) (hv := rfl) (r := ?_)
  refine tX16_value__4  (r := ?_)
  refine tX16_value__5 (ha := l3) (hv := rfl) (r := ?_)
  refine tX16_value__8 (t := 5) (j := dL D i) (ha := a8) (ht := rfl) (hx := rfl) (hj := dj) (hn := (by omega)) (hf := (a9 _ dj)) (r := ?_)
  refine tX16_value__9  (r := ?_)
  refine tX16_value__10  (r := ?_)
  refine tX16_value__11 (ha := q.2) (hv := rfl) (r := ?_)
  refine tX16_value__14 (n := 10) (hn := (by decide)) (r := ?_)
  show RQ _ _ _ 140 _ _ _ _
  refine tX16_value__140  (r := ?_)
  refine tX16_value__141  (r := ?_)
  refine tX16_value__142 (hd := (by omega)) (ha := a5) (call := s_blocs (d := d - 1) (by omega) hb.1 foq hb.hF hb.hR hb.hl jh b0) (k := ?_)
  rintro z w1 ⟨gz, ⟨pf, az, hp⟩, ch1⟩
  have k1 := Ch.k60 ch1
  have q1 := q.kp k1.i
  have a51 := k1.at a1 a5
  refine tX16_value__145 (hd := (by omega)) (call := s_hfirst (d := d - 1) (by omega) az hp (fun k _ => by have := po_le9 (r := rt (dF D)) (b := dB D (dL D i)) (k := k); omega)) (k := ?_)
  rintro v h_ ⟨ev, e9⟩
  rw [ev, e9, fi_six hb.1 (fun k g1 _ => po_tail hb.hl b0 hb.1 k g1)]
  refine tX16_value__148  (r := ?_)
  refine tX16_value__149  (r := ?_)
  refine tX16_value__150 (ha := q1.2) (hv := rfl) (r := ?_)
  refine tX16_value__153 (hd := (by omega)) (ha := a51) (call := s_leader (d := d - 1) (by omega) hb.1 (foq.ch ch1) hb.hF hb.hR hl) (k := ?_)
  rintro v h_ ⟨ev, e9⟩
  rw [ev, e9]
  refine tX16_value__156  (kt := fun c_156 => ?_) (kf := fun c_156 => ?_)
  · have t0 : ¬ fiN (po (rt (dF D)) (dB D (dL D i))) 6 = some (rt (dF D) l) := fun e => c_156 (by rw [e]; rfl)
    refine tX16_value__163  (r := ?_)
    refine tX16_value__164  (hP := ?_)
    refine ⟨_, rfl, ?_, ch1.sub (Nat.le_refl _) (Nat.le_refl _) (by decide) (by omega)⟩
    show _ = (if fiN (po (rt (dF D)) (dB D (dL D i))) 6 = some (rt (dF D) l) then nI 1 else nI 0)
    rw [if_neg t0]
  · have t0 : fiN (po (rt (dF D)) (dB D (dL D i))) 6 = some (rt (dF D) l) := (oI_eq (by have := hb.hl l hl; omega) (fun k e => by have := fi_lt _ 6 k e; omega)).mp c_156.symm
    refine tX16_value__159  (r := ?_)
    refine tX16_value__160 (r := ?_)
    refine tX16_value__164  (hP := ?_)
    refine ⟨_, rfl, ?_, ch1.sub (Nat.le_refl _) (Nat.le_refl _) (by decide) (by omega)⟩
    show _ = (if fiN (po (rt (dF D)) (dB D (dL D i))) 6 = some (rt (dF D) l) then nI 1 else nI 0)
    rw [if_pos t0]
set_option maxHeartbeats 4000000 in
theorem s_nvAl (hd : 12 ≤ d) (hb : BDok B D) (ha : HaX h c B D Rs tn fo ja li xj yl rl jf lf) (hi : i < bLi B) {a l : Nat} (hl : l < bLa B) (q : NdR h a 11 l none none) : RQ G mX16_value_ d 0 [some (.ref a), some (.ref c), some (.ref (yl i)), none] [] h (Ri fun r h1 => r = vT0 B D i (.inl (11, l)) ∧ Ch h h1 0 0 48 312) := by
  have la6 := hb.1
  have ja8 := hb.2.1
  obtain ⟨ldl, dj⟩ := hb.dj hi
  obtain ⟨bj, ff, ⟨a1, a2, a3, a4⟩, a5, ⟨a6, a7⟩, ⟨a8, a9⟩, ⟨a10, a11⟩, a12, a13, a14⟩ := id ha
  obtain ⟨l1, l2, l3, rf, l4, l5⟩ := a13 i hi
  have jh := a12 (dL D i) dj
  obtain ⟨j1, j2, j3, bf, j4, j5⟩ := id jh
  have foq := ha.to.fo
  have b0 := hb.b0 dj
  have bs := hb.bs9 dj
  refine tX16_value__0  (r := ?_)
  refine tX16_value__1 (ha := a5) (hv := rfl) (r := ?_)
  refine tX16_value__4  (r := ?_)
  refine tX16_value__5 (ha := l3) (hv := rfl) (r := ?_)
  refine tX16_value__8 (t := 5) (j := dL D i) (ha := a8) (ht := rfl) (hx := rfl) (hj := dj) (hn := (by omega)) (hf := (a9 _ dj)) (r := ?_)
  refine tX16_value__9  (r := ?_)
  refine tX16_value__10  (r := ?_)
  refine tX16_value__11 (ha := q.2) (hv := rfl) (r := ?_)
  refine tX16_value__14 (n := 11) (hn := (by decide)) (r := ?_)
  show RQ _ _ _ 165 _ _ _ _
  refine tX16_value__165  (r := ?_)
  refine tX16_value__166  (r := ?_)
  refine tX16_value__167 (ha := q.2) (hv := rfl) (r := ?_)
  refine tX16_value__170 (hd := (by omega)) (ha := a5) (call := s_leader (d := d - 1) (by omega) hb.1 foq hb.hF hb.hR hl) (k := ?_)
  rintro v h_ ⟨ev, e9⟩
  rw [ev, e9]
  refine tX16_value__173  (r := ?_)
  refine tX16_value__174  (r := ?_)
  refine tX16_value__175 (ha := l3) (hv := rfl) (r := ?_)
  refine tX16_value__178 (hd := (by omega)) (ha := a5) (call := s_leader (d := d - 1) (by omega) hb.1 foq hb.hF hb.hR ldl) (k := ?_)
  rintro v h_ ⟨ev, e9⟩
  rw [ev, e9]
  refine tX16_value__181  (kt := fun c_181 => ?_) (kf := fun c_181 => ?_)
  · have t0 : ¬ rt (dF D) (bLl B i) = rt (dF D) l := fun e => c_181 (by rw [e])
    refine tX16_value__188  (r := ?_)
    refine tX16_value__189  (hP := ?_)
    refine ⟨_, rfl, ?_, Ch.rf h 0 0 48 312⟩
    show _ = (if rt (dF D) (bLl B i) = rt (dF D) l then nI 1 else nI 0)
    rw [if_neg t0]
  · have t0 : rt (dF D) (bLl B i) = rt (dF D) l := ((nI_eq (by have := hb.hl l hl; omega) (by have := hb.hl _ ldl; omega)).mp c_181).symm
    refine tX16_value__184  (r := ?_)
    refine tX16_value__185 (r := ?_)
    refine tX16_value__189  (hP := ?_)
    refine ⟨_, rfl, ?_, Ch.rf h 0 0 48 312⟩
    show _ = (if rt (dF D) (bLl B i) = rt (dF D) l then nI 1 else nI 0)
    rw [if_pos t0]
theorem s_nvT0 (hd : 12 ≤ d) (hb : BDok B D) (ha : HaX h c B D Rs tn fo ja li xj yl rl jf lf) (hi : i < bLi B) {a : Nat} {e : ET0} (ok : ok0 (bLa B) e) (q : T0R h a e) : RQ G mX16_value_ d 0 [some (.ref a), some (.ref c), some (.ref (yl i)), none] [] h (Ri fun r h1 => r = vT0 B D i e ∧ Ch h h1 0 0 48 312) := by
  match e, ok, q with
  | .inl (k, l), ⟨hk, hl⟩, q =>
    rcases hk with rfl | rfl
    · exact s_nvFi hd hb ha hi hl q
    · exact s_nvAl hd hb ha hi hl q
  | .inr (s, l, m), ⟨hs, ok1, ok2⟩, ⟨x, y, q1, q2, q3⟩ => exact s_nvCm hd hb ha hi hs ok1 ok2 q1 q2 q3
set_option maxHeartbeats 4000000 in
theorem s_nvNt (hd : 13 ≤ d) (hb : BDok B D) (ha : HaX h c B D Rs tn fo ja li xj yl rl jf lf) (hi : i < bLi B) {a x : Nat} {y : Option Nat} {t u : ET0} (ok1 : ok0 (bLa B) t) (q : NdR h a 12 0 (some x) y) (qx : T0R h x t) : RQ G mX16_value_ d 0 [some (.ref a), some (.ref c), some (.ref (yl i)), none] [] h (Ri fun r h1 => r = vT1 B D i (.inr (12, t, u)) ∧ Ch h h1 0 0 96 624) := by
  have la6 := hb.1
  have ja8 := hb.2.1
  obtain ⟨ldl, dj⟩ := hb.dj hi
  obtain ⟨bj, ff, ⟨a1, a2, a3, a4⟩, a5, ⟨a6, a7⟩, ⟨a8, a9⟩, ⟨a10, a11⟩, a12, a13, a14⟩ := id ha
  obtain ⟨l1, l2, l3, rf, l4, l5⟩ := a13 i hi
  have jh := a12 (dL D i) dj
  obtain ⟨j1, j2, j3, bf, j4, j5⟩ := id jh
  have foq := ha.to.fo
  have b0 := hb.b0 dj
  have bs := hb.bs9 dj
  refine tX16_value__0  (r := ?_)
  refine tX16_value__1 (ha := a5) (hv := rfl) (r := ?_)
  refine tX16_value__4  (r := ?_)
  refine tX16_value__5 (ha := l3) (hv := rfl) (r := ?_)
  refine tX16_value__8 (t := 5) (j := dL D i) (ha := a8) (ht := rfl) (hx := rfl) (hj := dj) (hn := (by omega)) (hf := (a9 _ dj)) (r := ?_)
  refine tX16_value__9  (r := ?_)
  refine tX16_value__10  (r := ?_)
  refine tX16_value__11 (ha := q.2) (hv := rfl) (r := ?_)
  refine tX16_value__14 (n := 12) (hn := (by decide)) (r := ?_)
  show RQ _ _ _ 190 _ _ _ _
  refine tX16_value__190  (r := ?_)
  refine tX16_value__191  (r := ?_)
  refine tX16_value__192 (ha := q.2) (hv := rfl) (r := ?_)
  refine tX16_value__195  (r := ?_)
  refine tX16_value__196  (r := ?_)
  refine tX16_value__197 (hd := (by omega)) (ha := qx.at.choose_spec) (call := s_nvT0 (d := d - 1) (by omega) hb ha hi ok1 qx) (k := ?_)
  rintro v1 w1 ⟨ev1, ch1⟩
  rw [ev1]
  refine tX16_value__200  (r := ?_)
  refine tX16_value__201  (hP := ?_)
  refine ⟨_, rfl, ?_, ch1.sub (Nat.le_refl _) (Nat.le_refl _) (by decide) (by decide)⟩
  show _ = (if vT0 B D i t = 0 then nI 1 else nI 0)
  rcases t0_bl (B := B) (D := D) (i := i) ok1 with e | e <;> rw [e] <;> decide
theorem vT1_And {t u : ET0} : vT1 B D i (.inr (13, t, u)) = jnV 16 (vT0 B D i t) (vT0 B D i u) := by
  have e : vT1 B D i (.inr (13, t, u)) = if 13 = 12 then (if vT0 B D i t = 0 then nI 1 else nI 0) else jnV (if 13 = 13 then 16 else 17) (vT0 B D i t) (vT0 B D i u) := rfl
  rw [e, if_neg (by decide), if_pos rfl]
theorem vT1_Or {t u : ET0} : vT1 B D i (.inr (14, t, u)) = jnV 17 (vT0 B D i t) (vT0 B D i u) := by
  have e : vT1 B D i (.inr (14, t, u)) = if 14 = 12 then (if vT0 B D i t = 0 then nI 1 else nI 0) else jnV (if 14 = 13 then 16 else 17) (vT0 B D i t) (vT0 B D i u) := rfl
  rw [e, if_neg (by decide), if_neg (by decide)]
set_option maxHeartbeats 4000000 in
theorem s_nvAnd (hd : 13 ≤ d) (hb : BDok B D) (ha : HaX h c B D Rs tn fo ja li xj yl rl jf lf) (hi : i < bLi B) {a x y : Nat} {t u : ET0} (ok1 : ok0 (bLa B) t) (ok2 : ok0 (bLa B) u) (q : NdR h a 13 0 (some x) (some y)) (qx : T0R h x t) (qy : T0R h y u) : RQ G mX16_value_ d 0 [some (.ref a), some (.ref c), some (.ref (yl i)), none] [] h (Ri fun r h1 => r = vT1 B D i (.inr (13, t, u)) ∧ Ch h h1 0 0 96 624) := by
  have la6 := hb.1
  have ja8 := hb.2.1
  obtain ⟨ldl, dj⟩ := hb.dj hi
  obtain ⟨bj, ff, ⟨a1, a2, a3, a4⟩, a5, ⟨a6, a7⟩, ⟨a8, a9⟩, ⟨a10, a11⟩, a12, a13, a14⟩ := id ha
  obtain ⟨l1, l2, l3, rf, l4, l5⟩ := a13 i hi
  have jh := a12 (dL D i) dj
  obtain ⟨j1, j2, j3, bf, j4, j5⟩ := id jh
  have foq := ha.to.fo
  have b0 := hb.b0 dj
  have bs := hb.bs9 dj
  refine tX16_value__0  (r := ?_)
  refine tX16_value__1 (ha := a5) (hv := rfl) (r := ?_)
  refine tX16_value__4  (r := ?_)
  refine tX16_value__5 (ha := l3) (hv := rfl) (r := ?_)
  refine tX16_value__8 (t := 5) (j := dL D i) (ha := a8) (ht := rfl) (hx := rfl) (hj := dj) (hn := (by omega)) (hf := (a9 _ dj)) (r := ?_)
  refine tX16_value__9  (r := ?_)
  refine tX16_value__10  (r := ?_)
  refine tX16_value__11 (ha := q.2) (hv := rfl) (r := ?_)
  refine tX16_value__14 (n := 13) (hn := (by decide)) (r := ?_)
  rw [show sw_X16_value_ 13 = 202 from rfl]
  refine tX16_value__202  (r := ?_)
  refine tX16_value__203 (ha := q.2) (hv := rfl) (r := ?_)
  refine tX16_value__206  (r := ?_)
  refine tX16_value__207 (ha := q.2) (hv := rfl) (r := ?_)
  refine tX16_value__210  (r := ?_)
  refine tX16_value__211  (r := ?_)
  refine tX16_value__212 (hd := (by omega)) (ha := qx.at.choose_spec) (call := s_nvT0 (d := d - 1) (by omega) hb ha hi ok1 qx) (k := ?_)
  rintro v1 w1 ⟨ev1, ch1⟩
  have k1 := Ch.k60 ch1
  have ha1 := ha.k6 k1
  have q1 := q.kp k1.i
  refine tX16_value__215  (r := ?_)
  refine tX16_value__216 (ha := q1.2) (hv := rfl) (r := ?_)
  refine tX16_value__219  (r := ?_)
  refine tX16_value__220  (r := ?_)
  refine tX16_value__221 (hd := (by omega)) (ha := (qy.kp k1.i).at.choose_spec) (call := s_nvT0 (d := d - 1) (by omega) hb ha1 hi ok2 (qy.kp k1.i)) (k := ?_)
  rintro v2 w2 ⟨ev2, ch2⟩
  rw [ev1, ev2]
  refine tX16_value__224 (hd := (by omega)) (call := s_bothA (t0_bl ok1) (t0_bl ok2)) (k := ?_)
  rintro v3 h_ ⟨ev3, e9⟩
  rw [ev3, e9]
  refine tX16_value__227  (hP := ?_)
  exact ⟨_, rfl, vT1_And.symm, (ch1.trans ch2).sub (Nat.le_refl _) (Nat.le_refl _) (by decide) (by decide)⟩
set_option maxHeartbeats 4000000 in
theorem s_nvOr (hd : 13 ≤ d) (hb : BDok B D) (ha : HaX h c B D Rs tn fo ja li xj yl rl jf lf) (hi : i < bLi B) {a x y : Nat} {t u : ET0} (ok1 : ok0 (bLa B) t) (ok2 : ok0 (bLa B) u) (q : NdR h a 14 0 (some x) (some y)) (qx : T0R h x t) (qy : T0R h y u) : RQ G mX16_value_ d 0 [some (.ref a), some (.ref c), some (.ref (yl i)), none] [] h (Ri fun r h1 => r = vT1 B D i (.inr (14, t, u)) ∧ Ch h h1 0 0 96 624) := by
  have la6 := hb.1
  have ja8 := hb.2.1
  obtain ⟨ldl, dj⟩ := hb.dj hi
  obtain ⟨bj, ff, ⟨a1, a2, a3, a4⟩, a5, ⟨a6, a7⟩, ⟨a8, a9⟩, ⟨a10, a11⟩, a12, a13, a14⟩ := id ha
  obtain ⟨l1, l2, l3, rf, l4, l5⟩ := a13 i hi
  have jh := a12 (dL D i) dj
  obtain ⟨j1, j2, j3, bf, j4, j5⟩ := id jh
  have foq := ha.to.fo
  have b0 := hb.b0 dj
  have bs := hb.bs9 dj
  refine tX16_value__0  (r := ?_)
  refine tX16_value__1 (ha := a5) (hv := rfl) (r := ?_)
  refine tX16_value__4  (r := ?_)
  refine tX16_value__5 (ha := l3) (hv := rfl) (r := ?_)
  refine tX16_value__8 (t := 5) (j := dL D i) (ha := a8) (ht := rfl) (hx := rfl) (hj := dj) (hn := (by omega)) (hf := (a9 _ dj)) (r := ?_)
  refine tX16_value__9  (r := ?_)
  refine tX16_value__10  (r := ?_)
  refine tX16_value__11 (ha := q.2) (hv := rfl) (r := ?_)
  refine tX16_value__14 (n := 14) (hn := (by decide)) (r := ?_)
  rw [show sw_X16_value_ 14 = 202 from rfl]
  refine tX16_value__202  (r := ?_)
  refine tX16_value__203 (ha := q.2) (hv := rfl) (r := ?_)
  refine tX16_value__206  (r := ?_)
  refine tX16_value__207 (ha := q.2) (hv := rfl) (r := ?_)
  refine tX16_value__210  (r := ?_)
  refine tX16_value__211  (r := ?_)
  refine tX16_value__212 (hd := (by omega)) (ha := qx.at.choose_spec) (call := s_nvT0 (d := d - 1) (by omega) hb ha hi ok1 qx) (k := ?_)
  rintro v1 w1 ⟨ev1, ch1⟩
  have k1 := Ch.k60 ch1
  have ha1 := ha.k6 k1
  have q1 := q.kp k1.i
  refine tX16_value__215  (r := ?_)
  refine tX16_value__216 (ha := q1.2) (hv := rfl) (r := ?_)
  refine tX16_value__219  (r := ?_)
  refine tX16_value__220  (r := ?_)
  refine tX16_value__221 (hd := (by omega)) (ha := (qy.kp k1.i).at.choose_spec) (call := s_nvT0 (d := d - 1) (by omega) hb ha1 hi ok2 (qy.kp k1.i)) (k := ?_)
  rintro v2 w2 ⟨ev2, ch2⟩
  rw [ev1, ev2]
  refine tX16_value__224 (hd := (by omega)) (call := s_bothO (t0_bl ok1) (t0_bl ok2)) (k := ?_)
  rintro v3 h_ ⟨ev3, e9⟩
  rw [ev3, e9]
  refine tX16_value__227  (hP := ?_)
  exact ⟨_, rfl, vT1_Or.symm, (ch1.trans ch2).sub (Nat.le_refl _) (Nat.le_refl _) (by decide) (by decide)⟩
theorem s_nvT1 (hd : 13 ≤ d) (hb : BDok B D) (ha : HaX h c B D Rs tn fo ja li xj yl rl jf lf) (hi : i < bLi B) {a : Nat} {e : ET1} (ok : ok1T (bLa B) e) (q : T1R h a e) : RQ G mX16_value_ d 0 [some (.ref a), some (.ref c), some (.ref (yl i)), none] [] h (Ri fun r h1 => r = vT1 B D i e ∧ Ch h h1 0 0 96 624) := by
  match e, ok, q with
  | .inl t, ok, q => exact RQ.imp (s_nvT0 (by omega) hb ha hi ok q) (fun _ _ ⟨r, e, s, ch⟩ => ⟨r, e, s, ch.sub (Nat.le_refl _) (Nat.le_refl _) (by decide) (by decide)⟩)
  | .inr (s, t, u), ⟨hs, ok1, ok2⟩, ⟨x, y, q1, q2, q3⟩ =>
    rcases hs with rfl | rfl | rfl
    · exact s_nvNt hd hb ha hi ok1 q1 q2
    · obtain ⟨z, rfl, q4⟩ := q3 (by decide)
      exact s_nvAnd hd hb ha hi ok1 ok2 q1 q2 q4
    · obtain ⟨z, rfl, q4⟩ := q3 (by decide)
      exact s_nvOr hd hb ha hi ok1 ok2 q1 q2 q4
end HV
