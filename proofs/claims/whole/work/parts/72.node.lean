/-! the reference reckons nodes -/
theorem MoT.w47 {m : Nat} {th : Int32} {s : ST} {h : AH} (c : MoT h m th s) : ArI h (m + 47) 800 := by
  obtain ⟨-, ⟨-, -, -, -, -, -, -, -, -, -, -, z, -⟩, -⟩ := c
  exact z
theorem MoT.nor {m : Nat} {th : Int32} {s : ST} {h : AH} (c : MoT h m th s) : NoR h (m + 9) s.2.2.1 := by
  obtain ⟨-, ⟨-, -, -, -, -, -, -, -, -, ⟨ru, ac, no, -, -, nor⟩, -⟩, -⟩ := c
  exact nor
theorem MoT.val {th : Int32} {s : ST} {h : AH} (c : MoT h 216 th s) (f : Nat → Int32) : MoT (hset h (216 + 47) (.inl (0, 800, .inl f))) 216 th s := by
  obtain ⟨⟨tk, iw, er, et, dp, nm, a⟩, ⟨-, ⟨f1, a1, c1⟩, a2, a3, a4, a5, a6, a7, a8, ⟨ru, ac, no, a9⟩, ⟨b1, b2, b3, b4, b5, b6, a28⟩, ⟨f47, a47⟩, ⟨g, a48, hg⟩, a49, a50, a51, a52⟩, c3⟩ := c
  have e : h.1 ≤ (hset h (216 + 47) (.inl (0, 800, .inl f))).1 := Nat.le_refl _
  have u1 : Un h (hset h (216 + 47) (.inl (0, 800, .inl f))) 216 (216 + 47) := Un.set (Un.rf _ _ _) (by omega)
  have u2 : Un h (hset h (216 + 47) (.inl (0, 800, .inl f))) (216 + 48) (216 + 53) := Un.set (Un.rf _ _ _) (by omega)
  have am := a.keep e (u1 _ (by omega) (by omega))
  obtain ⟨⟨f1', a1', c1'⟩, ⟨f2, a2', c2⟩, ⟨f3, a3', c3'⟩, ⟨f4, a4', c4⟩, ⟨f5, a5', c5⟩⟩ := c3
  exact ⟨⟨tk, iw, er, et, dp, nm, am⟩, ⟨⟨th, tk, iw, er, et, dp, nm, am⟩, ⟨f1, a1.keep e (u1 _ (by omega) (by omega)), c1⟩, a2.keep e (u1 _ (by omega) (by omega)), a3.keep e (u1 _ (by omega) (by omega)), a4.keep e (u1 _ (by omega) (by omega)), a5.keep e (u1 _ (by omega) (by omega)), a6.keep e (u1 _ (by omega) (by omega)), a7.keep e (u1 _ (by omega) (by omega)), a8.keep e (u1 _ (by omega) (by omega)), ⟨ru, ac, no, a9.keep e (u1.sub (by omega) (by omega))⟩, ⟨b1, b2, b3, b4, b5, b6, a28.keep e (u1.sub (by omega) (by omega))⟩, ⟨f, At.set_eq2 a47.1⟩, ⟨g, a48.keep e (u2 _ (by omega) (by omega)), hg⟩, a49.keep e (u2 _ (by omega) (by omega)), a50.keep e (u2 _ (by omega) (by omega)), a51.keep e (u2 _ (by omega) (by omega)), a52.keep e (u2 _ (by omega) (by omega))⟩,
    ⟨f1', a1'.keep e (u1 _ (by omega) (by omega)), c1'⟩, ⟨f2, a2'.keep e (u1 _ (by omega) (by omega)), c2⟩, ⟨f3, a3'.keep e (u1 _ (by omega) (by omega)), c3'⟩, ⟨f4, a4'.keep e (u1 _ (by omega) (by omega)), c4⟩, ⟨f5, a5'.keep e (u1 _ (by omega) (by omega)), c5⟩⟩
/-- changes in the reference's working rows; what is kept stays -/
def Sv (h h1 : AH) : Prop := Sm h h1 (216 + 47) (216 + 53) ∧ Un h h1 (216 + 49) (216 + 50)
theorem Sv.rf (h : AH) : Sv h h := ⟨Sm.rf _ _ _, Un.rf _ _ _⟩
theorem Sv.trans {h h1 h2 : AH} (p : Sv h h1) (q : Sv h1 h2) : Sv h h2 := ⟨p.1.trans q.1, p.2.trans q.2⟩
theorem Sv.of {h h1 : AH} (sm : Sm h h1 (216 + 50) (216 + 53)) (e : 269 ≤ h.1) : Sv h h1 := ⟨sm.sub (by omega) (by omega), sm.un (by omega) (by omega)⟩
theorem MoT.room {th : Int32} {s : ST} {h : AH} (c : MoT h 216 th s) : 269 ≤ h.1 := by
  obtain ⟨-, -, -, ⟨f4, z4⟩⟩ := c.w4
  have := z4.1
  omega
theorem sw_jn0 : ∀ so, so < 60 → so = 40 ∨ so = 41 ∨ so = 42 ∨ so = 16 ∨ so = 17 ∨ so = 43 ∨ so = 44 ∨ sw_X12_joined so = 110 := by decide +kernel
theorem sw_jn : ∀ so, so < 60 → ¬ so = 40 → ¬ so = 41 → ¬ so = 42 → ¬ so = 16 → ¬ so = 17 → ¬ so = 43 → ¬ so = 44 → sw_X12_joined so = 110 := fun so h0 h1 h2 h3 h4 h5 h6 h7 => by
  have := sw_jn0 so h0
  omega
theorem sw_rk : ∀ so, so < 60 → ¬ so = 31 → isLk so = false → ¬ so = 15 → sw_X12_reckon so = 241 := by decide +kernel
section RKN
variable {G : GT} {d : Nat} {s : ST} {h0 h : AH}

set_option maxHeartbeats 4000000 in
set_option maxRecDepth 100000 in
theorem s_joined40 {a b : Int32} : RQ G mX12_joined d 0 [some (.int (nI 40)), some (.int a), some (.int b)] [] h (Ri fun v h1 => v = jnM 40 a b ∧ h1 = h) := by
  refine tX12_joined_0  (r := ?_)
  refine tX12_joined_1 (n := 40) (hn := (by decide)) (r := ?_)
  show RQ _ _ _ 68 _ _ _ _
  refine tX12_joined_68  (r := ?_)
  refine tX12_joined_69  (r := ?_)
  refine tX12_joined_70  (r := ?_)
  refine tX12_joined_71  (hP := ?_)
  exact ⟨_, rfl, rfl, rfl⟩

set_option maxHeartbeats 4000000 in
set_option maxRecDepth 100000 in
theorem s_joined41 {a b : Int32} : RQ G mX12_joined d 0 [some (.int (nI 41)), some (.int a), some (.int b)] [] h (Ri fun v h1 => v = jnM 41 a b ∧ h1 = h) := by
  refine tX12_joined_0  (r := ?_)
  refine tX12_joined_1 (n := 41) (hn := (by decide)) (r := ?_)
  show RQ _ _ _ 72 _ _ _ _
  refine tX12_joined_72  (r := ?_)
  refine tX12_joined_73  (r := ?_)
  refine tX12_joined_74  (r := ?_)
  refine tX12_joined_75  (hP := ?_)
  exact ⟨_, rfl, rfl, rfl⟩

set_option maxHeartbeats 4000000 in
set_option maxRecDepth 100000 in
theorem s_joined42 {a b : Int32} : RQ G mX12_joined d 0 [some (.int (nI 42)), some (.int a), some (.int b)] [] h (Ri fun v h1 => v = jnM 42 a b ∧ h1 = h) := by
  refine tX12_joined_0  (r := ?_)
  refine tX12_joined_1 (n := 42) (hn := (by decide)) (r := ?_)
  show RQ _ _ _ 76 _ _ _ _
  refine tX12_joined_76  (r := ?_)
  refine tX12_joined_77  (r := ?_)
  refine tX12_joined_78  (r := ?_)
  refine tX12_joined_79  (hP := ?_)
  exact ⟨_, rfl, rfl, rfl⟩

set_option maxHeartbeats 4000000 in
set_option maxRecDepth 100000 in
theorem s_joined16 {a b : Int32} : RQ G mX12_joined d 0 [some (.int (nI 16)), some (.int a), some (.int b)] [] h (Ri fun v h1 => v = jnM 16 a b ∧ h1 = h) := by
  refine tX12_joined_0  (r := ?_)
  refine tX12_joined_1 (n := 16) (hn := (by decide)) (r := ?_)
  show RQ _ _ _ 80 _ _ _ _
  refine tX12_joined_80  (r := ?_)
  refine tX12_joined_81  (r := ?_)
  refine tX12_joined_82  (r := ?_)
  refine tX12_joined_83  (hP := ?_)
  exact ⟨_, rfl, rfl, rfl⟩

set_option maxHeartbeats 4000000 in
set_option maxRecDepth 100000 in
theorem s_joined17 {a b : Int32} : RQ G mX12_joined d 0 [some (.int (nI 17)), some (.int a), some (.int b)] [] h (Ri fun v h1 => v = jnM 17 a b ∧ h1 = h) := by
  refine tX12_joined_0  (r := ?_)
  refine tX12_joined_1 (n := 17) (hn := (by decide)) (r := ?_)
  show RQ _ _ _ 84 _ _ _ _
  refine tX12_joined_84  (r := ?_)
  refine tX12_joined_85  (r := ?_)
  refine tX12_joined_86  (r := ?_)
  refine tX12_joined_87  (hP := ?_)
  exact ⟨_, rfl, rfl, rfl⟩

set_option maxHeartbeats 4000000 in
set_option maxRecDepth 100000 in
theorem s_joined43 {a b : Int32} : RQ G mX12_joined d 0 [some (.int (nI 43)), some (.int a), some (.int b)] [] h (Ri fun v h1 => v = jnM 43 a b ∧ h1 = h) := by
  refine tX12_joined_0  (r := ?_)
  refine tX12_joined_1 (n := 43) (hn := (by decide)) (r := ?_)
  show RQ _ _ _ 88 _ _ _ _
  refine tX12_joined_88  (r := ?_)
  refine tX12_joined_89  (r := ?_)
  refine tX12_joined_90  (kt := fun c_90 => ?_) (kf := fun c_90 => ?_)
  · have e : jnM 43 a b = nI 0 := if_neg (Int32.not_lt.mpr c_90)
    refine tX12_joined_97  (r := ?_)
    refine tX12_joined_98  (hP := ?_)
    exact ⟨_, rfl, e.symm, rfl⟩
  · have e : jnM 43 a b = nI 1 := if_pos (Int32.not_le.mp c_90)
    refine tX12_joined_93  (r := ?_)
    refine tX12_joined_94 (r := ?_)
    refine tX12_joined_98  (hP := ?_)
    exact ⟨_, rfl, e.symm, rfl⟩

set_option maxHeartbeats 4000000 in
set_option maxRecDepth 100000 in
theorem s_joined44 {a b : Int32} : RQ G mX12_joined d 0 [some (.int (nI 44)), some (.int a), some (.int b)] [] h (Ri fun v h1 => v = jnM 44 a b ∧ h1 = h) := by
  refine tX12_joined_0  (r := ?_)
  refine tX12_joined_1 (n := 44) (hn := (by decide)) (r := ?_)
  show RQ _ _ _ 99 _ _ _ _
  refine tX12_joined_99  (r := ?_)
  refine tX12_joined_100  (r := ?_)
  refine tX12_joined_101  (kt := fun c_101 => ?_) (kf := fun c_101 => ?_)
  · have e : jnM 44 a b = nI 0 := if_neg (Int32.not_lt.mpr c_101)
    refine tX12_joined_108  (r := ?_)
    refine tX12_joined_109  (hP := ?_)
    exact ⟨_, rfl, e.symm, rfl⟩
  · have e : jnM 44 a b = nI 1 := if_pos (Int32.not_le.mp c_101)
    refine tX12_joined_104  (r := ?_)
    refine tX12_joined_105 (r := ?_)
    refine tX12_joined_109  (hP := ?_)
    exact ⟨_, rfl, e.symm, rfl⟩

set_option maxHeartbeats 4000000 in
set_option maxRecDepth 100000 in
theorem s_joinedE {so : Nat} (h60 : so < 60) (n40 : ¬ so = 40) (n41 : ¬ so = 41) (n42 : ¬ so = 42) (n16 : ¬ so = 16) (n17 : ¬ so = 17) (n43 : ¬ so = 43) (n44 : ¬ so = 44) {a b : Int32} : RQ G mX12_joined d 0 [some (.int (nI so)), some (.int a), some (.int b)] [] h (Ri fun v h1 => v = jnM so a b ∧ h1 = h) := by
  have ej : jnM so a b = if a = b then nI 1 else nI 0 := by
    unfold jnM
    rw [if_neg n40, if_neg n41, if_neg n42, if_neg n16, if_neg n17, if_neg n43, if_neg n44]
  refine tX12_joined_0  (r := ?_)
  refine tX12_joined_1 (n := so) (hn := (by omega)) (r := ?_)
  rw [sw_jn so h60 n40 n41 n42 n16 n17 n43 n44]
  refine tX12_joined_110  (r := ?_)
  refine tX12_joined_111  (r := ?_)
  refine tX12_joined_112  (kt := fun c_112 => ?_) (kf := fun c_112 => ?_)
  · have e : jnM so a b = nI 0 := ej.trans (if_neg c_112)
    refine tX12_joined_119  (r := ?_)
    refine tX12_joined_120  (hP := ?_)
    exact ⟨_, rfl, e.symm, rfl⟩
  · have e : jnM so a b = nI 1 := ej.trans (if_pos c_112)
    refine tX12_joined_115  (r := ?_)
    refine tX12_joined_116 (r := ?_)
    refine tX12_joined_120  (hP := ?_)
    exact ⟨_, rfl, e.symm, rfl⟩

theorem s_joined {so : Nat} (h60 : so < 60) {a b : Int32} : RQ G mX12_joined d 0 [some (.int (nI so)), some (.int a), some (.int b)] [] h (Ri fun v h1 => v = jnM so a b ∧ h1 = h) := by
  by_cases n40 : so = 40
  · subst n40
    exact s_joined40
  · skip
    by_cases n41 : so = 41
    · subst n41
      exact s_joined41
    · skip
      by_cases n42 : so = 42
      · subst n42
        exact s_joined42
      · skip
        by_cases n16 : so = 16
        · subst n16
          exact s_joined16
        · skip
          by_cases n17 : so = 17
          · subst n17
            exact s_joined17
          · skip
            by_cases n43 : so = 43
            · subst n43
              exact s_joined43
            · skip
              by_cases n44 : so = 44
              · subst n44
                exact s_joined44
              · skip
                exact s_joinedE h60 n40 n41 n42 n16 n17 n43 n44

set_option maxHeartbeats 4000000 in
set_option maxRecDepth 100000 in
theorem s_rk31 (hd : 6 ≤ d) {th : Int32} (c2 : MoT h 216 th s) (hb : BDok s.2.2.1 s.2.2.2) {i : Nat} (hi : i < bLi s.2.2.1) {le ri : Nat} {v : Nat → Int32} (av : At h (216 + 47) (.inl (0, 800, .inl v))) : RQ G mX12_reckon d 0 [some (.ref 216), some (.int (nI i)), some (.int (nI 31)), some (.int (nI le)), some (.int (nI ri)), none] [] h (Ri fun x h1 => x = ndV s.2.2.1 s.2.2.2 i 31 le ri v ∧ MoT h1 216 th s ∧ Sm h h1 (216 + 50) (216 + 53)) := by
  obtain ⟨⟨tk, iw, er, et, dp, nm, am⟩, ⟨-, ⟨ft, at1, ct1⟩, -, -, -, -, -, -, -, ⟨ru, ac, no, a9, -⟩, -, -, ⟨fn, a48, n0, nb, nf, nl⟩, -, -, -, -⟩, ⟨⟨gs, as_, cs⟩, ⟨gw, aw, cw⟩, ⟨gl, al, cl⟩, ⟨g0, a0_, c0_⟩, ⟨g1, a1_, c1_⟩⟩⟩ := id c2
  have l1 := hb.1
  have l2 := hb.2.1
  have l3 := hb.2.2.1
  obtain ⟨b1_, b2_⟩ := hb.2.2.2.2.2.2.2.1 i hi
  refine tX12_reckon_0  (r := ?_)
  refine tX12_reckon_1 (ha := (by first | assumption | (repeat (first | assumption | exact At.set_eq2 (by first | omega | (simp only [hset, hnew]; omega) | rfl | decide) | exact At.new_eq2 _ _ (by first | omega | (simp only [hset, hnew]; omega) | rfl | decide) | refine At.set_ne ?_ (by first | omega | (simp only [hset, hnew]; omega) | rfl | decide) | refine At.new_ne ?_)))) (hv := rfl) (r := ?_)
  refine tX12_reckon_4  (r := ?_)
  refine tX12_reckon_6  (r := ?_)
  refine tX12_reckon_7  (r := ?_)
  rw [nI_add]
  refine tX12_reckon_8 (ha := (by first | assumption | (repeat (first | assumption | exact At.set_eq2 (by first | omega | (simp only [hset, hnew]; omega) | rfl | decide) | exact At.new_eq2 _ _ (by first | omega | (simp only [hset, hnew]; omega) | rfl | decide) | refine At.set_ne ?_ (by first | omega | (simp only [hset, hnew]; omega) | rfl | decide) | refine At.new_ne ?_)))) (hx := rfl) (hj := (by omega)) (hn := (by decide)) (r := ?_)
  rw [nl _ hi]
  refine tX12_reckon_9  (r := ?_)
  refine tX12_reckon_11  (r := ?_)
  refine tX12_reckon_12 (n := 31) (hn := (by decide)) (r := ?_)
  show RQ _ _ _ 148 _ _ _ _
  refine tX12_reckon_148  (r := ?_)
  refine tX12_reckon_149  (hP := ?_)
  exact ⟨_, rfl, rfl, c2, Sm.rf _ _ _⟩

set_option maxHeartbeats 4000000 in
set_option maxRecDepth 100000 in
theorem s_rk20 (hd : 6 ≤ d) {th : Int32} (c2 : MoT h 216 th s) (hb : BDok s.2.2.1 s.2.2.2) {i : Nat} (hi : i < bLi s.2.2.1) {le ri : Nat} {v : Nat → Int32} (av : At h (216 + 47) (.inl (0, 800, .inl v))) : RQ G mX12_reckon d 0 [some (.ref 216), some (.int (nI i)), some (.int (nI 20)), some (.int (nI le)), some (.int (nI ri)), none] [] h (Ri fun x h1 => x = ndV s.2.2.1 s.2.2.2 i 20 le ri v ∧ MoT h1 216 th s ∧ Sm h h1 (216 + 50) (216 + 53)) := by
  obtain ⟨⟨tk, iw, er, et, dp, nm, am⟩, ⟨-, ⟨ft, at1, ct1⟩, -, -, -, -, -, -, -, ⟨ru, ac, no, a9, -⟩, -, -, ⟨fn, a48, n0, nb, nf, nl⟩, -, -, -, -⟩, ⟨⟨gs, as_, cs⟩, ⟨gw, aw, cw⟩, ⟨gl, al, cl⟩, ⟨g0, a0_, c0_⟩, ⟨g1, a1_, c1_⟩⟩⟩ := id c2
  have l1 := hb.1
  have l2 := hb.2.1
  have l3 := hb.2.2.1
  obtain ⟨b1_, b2_⟩ := hb.2.2.2.2.2.2.2.1 i hi
  refine tX12_reckon_0  (r := ?_)
  refine tX12_reckon_1 (ha := (by first | assumption | (repeat (first | assumption | exact At.set_eq2 (by first | omega | (simp only [hset, hnew]; omega) | rfl | decide) | exact At.new_eq2 _ _ (by first | omega | (simp only [hset, hnew]; omega) | rfl | decide) | refine At.set_ne ?_ (by first | omega | (simp only [hset, hnew]; omega) | rfl | decide) | refine At.new_ne ?_)))) (hv := rfl) (r := ?_)
  refine tX12_reckon_4  (r := ?_)
  refine tX12_reckon_6  (r := ?_)
  refine tX12_reckon_7  (r := ?_)
  rw [nI_add]
  refine tX12_reckon_8 (ha := (by first | assumption | (repeat (first | assumption | exact At.set_eq2 (by first | omega | (simp only [hset, hnew]; omega) | rfl | decide) | exact At.new_eq2 _ _ (by first | omega | (simp only [hset, hnew]; omega) | rfl | decide) | refine At.set_ne ?_ (by first | omega | (simp only [hset, hnew]; omega) | rfl | decide) | refine At.new_ne ?_)))) (hx := rfl) (hj := (by omega)) (hn := (by decide)) (r := ?_)
  rw [nl _ hi]
  refine tX12_reckon_9  (r := ?_)
  refine tX12_reckon_11  (r := ?_)
  refine tX12_reckon_12 (n := 20) (hn := (by decide)) (r := ?_)
  show RQ _ _ _ 150 _ _ _ _
  refine tX12_reckon_150  (r := ?_)
  refine tX12_reckon_151 (ha := (by first | assumption | (repeat (first | assumption | exact At.set_eq2 (by first | omega | (simp only [hset, hnew]; omega) | rfl | decide) | exact At.new_eq2 _ _ (by first | omega | (simp only [hset, hnew]; omega) | rfl | decide) | refine At.set_ne ?_ (by first | omega | (simp only [hset, hnew]; omega) | rfl | decide) | refine At.new_ne ?_)))) (hv := rfl) (r := ?_)
  refine tX12_reckon_154  (r := ?_)
  refine tX12_reckon_155 (ha := (by first | assumption | (repeat (first | assumption | exact At.set_eq2 (by first | omega | (simp only [hset, hnew]; omega) | rfl | decide) | exact At.new_eq2 _ _ (by first | omega | (simp only [hset, hnew]; omega) | rfl | decide) | refine At.set_ne ?_ (by first | omega | (simp only [hset, hnew]; omega) | rfl | decide) | refine At.new_ne ?_)))) (hx := (show nI 0 = nI 0 from rfl)) (hj := (by decide)) (hn := (by decide)) (r := ?_)
  rw [n0]
  refine tX12_reckon_156  (hP := ?_)
  exact ⟨_, rfl, rfl, c2, Sm.rf _ _ _⟩

set_option maxHeartbeats 4000000 in
set_option maxRecDepth 100000 in
theorem s_rk22 (hd : 6 ≤ d) {th : Int32} (c2 : MoT h 216 th s) (hb : BDok s.2.2.1 s.2.2.2) {i : Nat} (hi : i < bLi s.2.2.1) {le ri : Nat} {v : Nat → Int32} (av : At h (216 + 47) (.inl (0, 800, .inl v))) : RQ G mX12_reckon d 0 [some (.ref 216), some (.int (nI i)), some (.int (nI 22)), some (.int (nI le)), some (.int (nI ri)), none] [] h (Ri fun x h1 => x = ndV s.2.2.1 s.2.2.2 i 22 le ri v ∧ MoT h1 216 th s ∧ Sm h h1 (216 + 50) (216 + 53)) := by
  obtain ⟨⟨tk, iw, er, et, dp, nm, am⟩, ⟨-, ⟨ft, at1, ct1⟩, -, -, -, -, -, -, -, ⟨ru, ac, no, a9, -⟩, -, -, ⟨fn, a48, n0, nb, nf, nl⟩, -, -, -, -⟩, ⟨⟨gs, as_, cs⟩, ⟨gw, aw, cw⟩, ⟨gl, al, cl⟩, ⟨g0, a0_, c0_⟩, ⟨g1, a1_, c1_⟩⟩⟩ := id c2
  have l1 := hb.1
  have l2 := hb.2.1
  have l3 := hb.2.2.1
  obtain ⟨b1_, b2_⟩ := hb.2.2.2.2.2.2.2.1 i hi
  refine tX12_reckon_0  (r := ?_)
  refine tX12_reckon_1 (ha := (by first | assumption | (repeat (first | assumption | exact At.set_eq2 (by first | omega | (simp only [hset, hnew]; omega) | rfl | decide) | exact At.new_eq2 _ _ (by first | omega | (simp only [hset, hnew]; omega) | rfl | decide) | refine At.set_ne ?_ (by first | omega | (simp only [hset, hnew]; omega) | rfl | decide) | refine At.new_ne ?_)))) (hv := rfl) (r := ?_)
  refine tX12_reckon_4  (r := ?_)
  refine tX12_reckon_6  (r := ?_)
  refine tX12_reckon_7  (r := ?_)
  rw [nI_add]
  refine tX12_reckon_8 (ha := (by first | assumption | (repeat (first | assumption | exact At.set_eq2 (by first | omega | (simp only [hset, hnew]; omega) | rfl | decide) | exact At.new_eq2 _ _ (by first | omega | (simp only [hset, hnew]; omega) | rfl | decide) | refine At.set_ne ?_ (by first | omega | (simp only [hset, hnew]; omega) | rfl | decide) | refine At.new_ne ?_)))) (hx := rfl) (hj := (by omega)) (hn := (by decide)) (r := ?_)
  rw [nl _ hi]
  refine tX12_reckon_9  (r := ?_)
  refine tX12_reckon_11  (r := ?_)
  refine tX12_reckon_12 (n := 22) (hn := (by decide)) (r := ?_)
  show RQ _ _ _ 157 _ _ _ _
  refine tX12_reckon_157  (r := ?_)
  refine tX12_reckon_158  (r := ?_)
  refine tX12_reckon_160 (hd := (by omega)) (ha := (by first | assumption | (repeat (first | assumption | exact At.set_eq2 (by first | omega | (simp only [hset, hnew]; omega) | rfl | decide) | exact At.new_eq2 _ _ (by first | omega | (simp only [hset, hnew]; omega) | rfl | decide) | refine At.set_ne ?_ (by first | omega | (simp only [hset, hnew]; omega) | rfl | decide) | refine At.new_ne ?_)))) (call := s_margin (d := 5) (by decide) c2 hb b2_) (k := ?_)
  rintro x h3 ⟨rfl, c3, sm3⟩
  refine tX12_reckon_163  (hP := ?_)
  exact ⟨_, rfl, rfl, c3, sm3.sub (by omega) (by omega)⟩

set_option maxHeartbeats 4000000 in
set_option maxRecDepth 100000 in
theorem s_rk23 (hd : 6 ≤ d) {th : Int32} (c2 : MoT h 216 th s) (hb : BDok s.2.2.1 s.2.2.2) {i : Nat} (hi : i < bLi s.2.2.1) {le ri : Nat} {v : Nat → Int32} (av : At h (216 + 47) (.inl (0, 800, .inl v))) : RQ G mX12_reckon d 0 [some (.ref 216), some (.int (nI i)), some (.int (nI 23)), some (.int (nI le)), some (.int (nI ri)), none] [] h (Ri fun x h1 => x = ndV s.2.2.1 s.2.2.2 i 23 le ri v ∧ MoT h1 216 th s ∧ Sm h h1 (216 + 50) (216 + 53)) := by
  obtain ⟨⟨tk, iw, er, et, dp, nm, am⟩, ⟨-, ⟨ft, at1, ct1⟩, -, -, -, -, -, -, -, ⟨ru, ac, no, a9, -⟩, -, -, ⟨fn, a48, n0, nb, nf, nl⟩, -, -, -, -⟩, ⟨⟨gs, as_, cs⟩, ⟨gw, aw, cw⟩, ⟨gl, al, cl⟩, ⟨g0, a0_, c0_⟩, ⟨g1, a1_, c1_⟩⟩⟩ := id c2
  have l1 := hb.1
  have l2 := hb.2.1
  have l3 := hb.2.2.1
  obtain ⟨b1_, b2_⟩ := hb.2.2.2.2.2.2.2.1 i hi
  refine tX12_reckon_0  (r := ?_)
  refine tX12_reckon_1 (ha := (by first | assumption | (repeat (first | assumption | exact At.set_eq2 (by first | omega | (simp only [hset, hnew]; omega) | rfl | decide) | exact At.new_eq2 _ _ (by first | omega | (simp only [hset, hnew]; omega) | rfl | decide) | refine At.set_ne ?_ (by first | omega | (simp only [hset, hnew]; omega) | rfl | decide) | refine At.new_ne ?_)))) (hv := rfl) (r := ?_)
  refine tX12_reckon_4  (r := ?_)
  refine tX12_reckon_6  (r := ?_)
  refine tX12_reckon_7  (r := ?_)
  rw [nI_add]
  refine tX12_reckon_8 (ha := (by first | assumption | (repeat (first | assumption | exact At.set_eq2 (by first | omega | (simp only [hset, hnew]; omega) | rfl | decide) | exact At.new_eq2 _ _ (by first | omega | (simp only [hset, hnew]; omega) | rfl | decide) | refine At.set_ne ?_ (by first | omega | (simp only [hset, hnew]; omega) | rfl | decide) | refine At.new_ne ?_)))) (hx := rfl) (hj := (by omega)) (hn := (by decide)) (r := ?_)
  rw [nl _ hi]
  refine tX12_reckon_9  (r := ?_)
  refine tX12_reckon_11  (r := ?_)
  refine tX12_reckon_12 (n := 23) (hn := (by decide)) (r := ?_)
  show RQ _ _ _ 164 _ _ _ _
  refine tX12_reckon_164  (r := ?_)
  refine tX12_reckon_165  (r := ?_)
  refine tX12_reckon_167 (hd := (by omega)) (ha := (by first | assumption | (repeat (first | assumption | exact At.set_eq2 (by first | omega | (simp only [hset, hnew]; omega) | rfl | decide) | exact At.new_eq2 _ _ (by first | omega | (simp only [hset, hnew]; omega) | rfl | decide) | refine At.set_ne ?_ (by first | omega | (simp only [hset, hnew]; omega) | rfl | decide) | refine At.new_ne ?_)))) (call := s_all (d := 5) (by decide) c2 hb b2_) (k := ?_)
  rintro x h_ ⟨rfl, e9⟩
  rw [e9]
  refine tX12_reckon_170  (hP := ?_)
  exact ⟨_, rfl, rfl, c2, Sm.rf _ _ _⟩

set_option maxHeartbeats 4000000 in
set_option maxRecDepth 100000 in
theorem s_rk21 (hd : 6 ≤ d) {th : Int32} (c2 : MoT h 216 th s) (hb : BDok s.2.2.1 s.2.2.2) {i : Nat} (hi : i < bLi s.2.2.1) {le ri : Nat} {v : Nat → Int32} (av : At h (216 + 47) (.inl (0, 800, .inl v))) (hn : le < bLa s.2.2.1) : RQ G mX12_reckon d 0 [some (.ref 216), some (.int (nI i)), some (.int (nI 21)), some (.int (nI le)), some (.int (nI ri)), none] [] h (Ri fun x h1 => x = ndV s.2.2.1 s.2.2.2 i 21 le ri v ∧ MoT h1 216 th s ∧ Sm h h1 (216 + 50) (216 + 53)) := by
  obtain ⟨⟨tk, iw, er, et, dp, nm, am⟩, ⟨-, ⟨ft, at1, ct1⟩, -, -, -, -, -, -, -, ⟨ru, ac, no, a9, -⟩, -, -, ⟨fn, a48, n0, nb, nf, nl⟩, -, -, -, -⟩, ⟨⟨gs, as_, cs⟩, ⟨gw, aw, cw⟩, ⟨gl, al, cl⟩, ⟨g0, a0_, c0_⟩, ⟨g1, a1_, c1_⟩⟩⟩ := id c2
  have l1 := hb.1
  have l2 := hb.2.1
  have l3 := hb.2.2.1
  obtain ⟨b1_, b2_⟩ := hb.2.2.2.2.2.2.2.1 i hi
  refine tX12_reckon_0  (r := ?_)
  refine tX12_reckon_1 (ha := (by first | assumption | (repeat (first | assumption | exact At.set_eq2 (by first | omega | (simp only [hset, hnew]; omega) | rfl | decide) | exact At.new_eq2 _ _ (by first | omega | (simp only [hset, hnew]; omega) | rfl | decide) | refine At.set_ne ?_ (by first | omega | (simp only [hset, hnew]; omega) | rfl | decide) | refine At.new_ne ?_)))) (hv := rfl) (r := ?_)
  refine tX12_reckon_4  (r := ?_)
  refine tX12_reckon_6  (r := ?_)
  refine tX12_reckon_7  (r := ?_)
  rw [nI_add]
  refine tX12_reckon_8 (ha := (by first | assumption | (repeat (first | assumption | exact At.set_eq2 (by first | omega | (simp only [hset, hnew]; omega) | rfl | decide) | exact At.new_eq2 _ _ (by first | omega | (simp only [hset, hnew]; omega) | rfl | decide) | refine At.set_ne ?_ (by first | omega | (simp only [hset, hnew]; omega) | rfl | decide) | refine At.new_ne ?_)))) (hx := rfl) (hj := (by omega)) (hn := (by decide)) (r := ?_)
  rw [nl _ hi]
  refine tX12_reckon_9  (r := ?_)
  refine tX12_reckon_11  (r := ?_)
  refine tX12_reckon_12 (n := 21) (hn := (by decide)) (r := ?_)
  show RQ _ _ _ 171 _ _ _ _
  refine tX12_reckon_171  (r := ?_)
  refine tX12_reckon_172  (r := ?_)
  refine tX12_reckon_174  (r := ?_)
  refine tX12_reckon_175 (hd := (by omega)) (ha := (by first | assumption | (repeat (first | assumption | exact At.set_eq2 (by first | omega | (simp only [hset, hnew]; omega) | rfl | decide) | exact At.new_eq2 _ _ (by first | omega | (simp only [hset, hnew]; omega) | rfl | decide) | refine At.set_ne ?_ (by first | omega | (simp only [hset, hnew]; omega) | rfl | decide) | refine At.new_ne ?_)))) (call := s_held (d := 5) c2 hb b2_ hn) (k := ?_)
  rintro x h_ ⟨rfl, e9⟩
  rw [e9]
  refine tX12_reckon_178  (hP := ?_)
  exact ⟨_, rfl, rfl, c2, Sm.rf _ _ _⟩

set_option maxHeartbeats 4000000 in
set_option maxRecDepth 100000 in
theorem s_rk2 (hd : 6 ≤ d) {th : Int32} (c2 : MoT h 216 th s) (hb : BDok s.2.2.1 s.2.2.2) {i : Nat} (hi : i < bLi s.2.2.1) {le ri : Nat} {v : Nat → Int32} (av : At h (216 + 47) (.inl (0, 800, .inl v))) (hn : le < bLa s.2.2.1) : RQ G mX12_reckon d 0 [some (.ref 216), some (.int (nI i)), some (.int (nI 2)), some (.int (nI le)), some (.int (nI ri)), none] [] h (Ri fun x h1 => x = ndV s.2.2.1 s.2.2.2 i 2 le ri v ∧ MoT h1 216 th s ∧ Sm h h1 (216 + 50) (216 + 53)) := by
  obtain ⟨⟨tk, iw, er, et, dp, nm, am⟩, ⟨-, ⟨ft, at1, ct1⟩, -, -, -, -, -, -, -, ⟨ru, ac, no, a9, -⟩, -, -, ⟨fn, a48, n0, nb, nf, nl⟩, -, -, -, -⟩, ⟨⟨gs, as_, cs⟩, ⟨gw, aw, cw⟩, ⟨gl, al, cl⟩, ⟨g0, a0_, c0_⟩, ⟨g1, a1_, c1_⟩⟩⟩ := id c2
  have l1 := hb.1
  have l2 := hb.2.1
  have l3 := hb.2.2.1
  obtain ⟨b1_, b2_⟩ := hb.2.2.2.2.2.2.2.1 i hi
  refine tX12_reckon_0  (r := ?_)
  refine tX12_reckon_1 (ha := (by first | assumption | (repeat (first | assumption | exact At.set_eq2 (by first | omega | (simp only [hset, hnew]; omega) | rfl | decide) | exact At.new_eq2 _ _ (by first | omega | (simp only [hset, hnew]; omega) | rfl | decide) | refine At.set_ne ?_ (by first | omega | (simp only [hset, hnew]; omega) | rfl | decide) | refine At.new_ne ?_)))) (hv := rfl) (r := ?_)
  refine tX12_reckon_4  (r := ?_)
  refine tX12_reckon_6  (r := ?_)
  refine tX12_reckon_7  (r := ?_)
  rw [nI_add]
  refine tX12_reckon_8 (ha := (by first | assumption | (repeat (first | assumption | exact At.set_eq2 (by first | omega | (simp only [hset, hnew]; omega) | rfl | decide) | exact At.new_eq2 _ _ (by first | omega | (simp only [hset, hnew]; omega) | rfl | decide) | refine At.set_ne ?_ (by first | omega | (simp only [hset, hnew]; omega) | rfl | decide) | refine At.new_ne ?_)))) (hx := rfl) (hj := (by omega)) (hn := (by decide)) (r := ?_)
  rw [nl _ hi]
  refine tX12_reckon_9  (r := ?_)
  refine tX12_reckon_11  (r := ?_)
  refine tX12_reckon_12 (n := 2) (hn := (by decide)) (r := ?_)
  show RQ _ _ _ 179 _ _ _ _
  refine tX12_reckon_179  (r := ?_)
  refine tX12_reckon_180  (r := ?_)
  refine tX12_reckon_181 (hd := (by omega)) (ha := (by first | assumption | (repeat (first | assumption | exact At.set_eq2 (by first | omega | (simp only [hset, hnew]; omega) | rfl | decide) | exact At.new_eq2 _ _ (by first | omega | (simp only [hset, hnew]; omega) | rfl | decide) | refine At.set_ne ?_ (by first | omega | (simp only [hset, hnew]; omega) | rfl | decide) | refine At.new_ne ?_)))) (call := s_refinall (d := 5) (by decide) c2 hb hn) (k := ?_)
  rintro x h3 ⟨rfl, c3, sm3⟩
  refine tX12_reckon_184  (hP := ?_)
  exact ⟨_, rfl, rfl, c3, sm3.sub (by omega) (by omega)⟩

set_option maxHeartbeats 4000000 in
set_option maxRecDepth 100000 in
theorem s_rk18 (hd : 6 ≤ d) {th : Int32} (c2 : MoT h 216 th s) (hb : BDok s.2.2.1 s.2.2.2) {i : Nat} (hi : i < bLi s.2.2.1) {le ri : Nat} {v : Nat → Int32} (av : At h (216 + 47) (.inl (0, 800, .inl v))) (hn : le < bLa s.2.2.1) : RQ G mX12_reckon d 0 [some (.ref 216), some (.int (nI i)), some (.int (nI 18)), some (.int (nI le)), some (.int (nI ri)), none] [] h (Ri fun x h1 => x = ndV s.2.2.1 s.2.2.2 i 18 le ri v ∧ MoT h1 216 th s ∧ Sm h h1 (216 + 50) (216 + 53)) := by
  obtain ⟨⟨tk, iw, er, et, dp, nm, am⟩, ⟨-, ⟨ft, at1, ct1⟩, -, -, -, -, -, -, -, ⟨ru, ac, no, a9, -⟩, -, -, ⟨fn, a48, n0, nb, nf, nl⟩, -, -, -, -⟩, ⟨⟨gs, as_, cs⟩, ⟨gw, aw, cw⟩, ⟨gl, al, cl⟩, ⟨g0, a0_, c0_⟩, ⟨g1, a1_, c1_⟩⟩⟩ := id c2
  have l1 := hb.1
  have l2 := hb.2.1
  have l3 := hb.2.2.1
  obtain ⟨b1_, b2_⟩ := hb.2.2.2.2.2.2.2.1 i hi
  have r6 := rt_lt6 hb le (by omega)
  refine tX12_reckon_0  (r := ?_)
  refine tX12_reckon_1 (ha := (by first | assumption | (repeat (first | assumption | exact At.set_eq2 (by first | omega | (simp only [hset, hnew]; omega) | rfl | decide) | exact At.new_eq2 _ _ (by first | omega | (simp only [hset, hnew]; omega) | rfl | decide) | refine At.set_ne ?_ (by first | omega | (simp only [hset, hnew]; omega) | rfl | decide) | refine At.new_ne ?_)))) (hv := rfl) (r := ?_)
  refine tX12_reckon_4  (r := ?_)
  refine tX12_reckon_6  (r := ?_)
  refine tX12_reckon_7  (r := ?_)
  rw [nI_add]
  refine tX12_reckon_8 (ha := (by first | assumption | (repeat (first | assumption | exact At.set_eq2 (by first | omega | (simp only [hset, hnew]; omega) | rfl | decide) | exact At.new_eq2 _ _ (by first | omega | (simp only [hset, hnew]; omega) | rfl | decide) | refine At.set_ne ?_ (by first | omega | (simp only [hset, hnew]; omega) | rfl | decide) | refine At.new_ne ?_)))) (hx := rfl) (hj := (by omega)) (hn := (by decide)) (r := ?_)
  rw [nl _ hi]
  refine tX12_reckon_9  (r := ?_)
  refine tX12_reckon_11  (r := ?_)
  refine tX12_reckon_12 (n := 18) (hn := (by decide)) (r := ?_)
  show RQ _ _ _ 185 _ _ _ _
  refine tX12_reckon_185  (r := ?_)
  refine tX12_reckon_186  (r := ?_)
  refine tX12_reckon_188 (hd := (by omega)) (ha := (by first | assumption | (repeat (first | assumption | exact At.set_eq2 (by first | omega | (simp only [hset, hnew]; omega) | rfl | decide) | exact At.new_eq2 _ _ (by first | omega | (simp only [hset, hnew]; omega) | rfl | decide) | refine At.set_ne ?_ (by first | omega | (simp only [hset, hnew]; omega) | rfl | decide) | refine At.new_ne ?_)))) (call := s_firstHere (d := 5) (by decide) c2 hb b2_) (k := ?_)
  rintro x h3 ⟨rfl, c3, -, sm3⟩
  obtain ⟨⟨tk3, iw3, er3, et3, dp3, nm3, am3⟩, -⟩ := id c3
  refine tX12_reckon_191  (r := ?_)
  refine tX12_reckon_192  (r := ?_)
  refine tX12_reckon_193 (hd := (by omega)) (ha := (by first | assumption | (repeat (first | assumption | exact At.set_eq2 (by first | omega | (simp only [hset, hnew]; omega) | rfl | decide) | exact At.new_eq2 _ _ (by first | omega | (simp only [hset, hnew]; omega) | rfl | decide) | refine At.set_ne ?_ (by first | omega | (simp only [hset, hnew]; omega) | rfl | decide) | refine At.new_ne ?_)))) (call := s_leader (d := 5) c3 hb hn) (k := ?_)
  rintro x2 h_ ⟨rfl, e9⟩
  rw [e9]
  refine tX12_reckon_196  (kt := fun c_196 => ?_) (kf := fun c_196 => ?_)
  · have e : ndV s.2.2.1 s.2.2.2 i 18 le ri v = nI 0 := if_neg (c := fiN (po (rt (dF s.2.2.2)) (dB s.2.2.2 (dL s.2.2.2 i))) 6 = some (rt (dF s.2.2.2) le)) (fun z => c_196 (by rw [z]; rfl))
    refine tX12_reckon_203  (r := ?_)
    refine tX12_reckon_204  (hP := ?_)
    exact ⟨_, rfl, e.symm, c3, sm3.sub (by omega) (by omega)⟩
  · have e : ndV s.2.2.1 s.2.2.2 i 18 le ri v = nI 1 := if_pos (c := fiN (po (rt (dF s.2.2.2)) (dB s.2.2.2 (dL s.2.2.2 i))) 6 = some (rt (dF s.2.2.2) le)) ((oI_eq (by omega) (fun k z => by have := fi_lt _ _ _ z; omega)).mp c_196.symm)
    refine tX12_reckon_199  (r := ?_)
    refine tX12_reckon_200 (r := ?_)
    refine tX12_reckon_204  (hP := ?_)
    exact ⟨_, rfl, e.symm, c3, sm3.sub (by omega) (by omega)⟩

set_option maxHeartbeats 4000000 in
set_option maxRecDepth 100000 in
theorem s_rk19 (hd : 6 ≤ d) {th : Int32} (c2 : MoT h 216 th s) (hb : BDok s.2.2.1 s.2.2.2) {i : Nat} (hi : i < bLi s.2.2.1) {le ri : Nat} {v : Nat → Int32} (av : At h (216 + 47) (.inl (0, 800, .inl v))) (hn : le < bLa s.2.2.1) : RQ G mX12_reckon d 0 [some (.ref 216), some (.int (nI i)), some (.int (nI 19)), some (.int (nI le)), some (.int (nI ri)), none] [] h (Ri fun x h1 => x = ndV s.2.2.1 s.2.2.2 i 19 le ri v ∧ MoT h1 216 th s ∧ Sm h h1 (216 + 50) (216 + 53)) := by
  obtain ⟨⟨tk, iw, er, et, dp, nm, am⟩, ⟨-, ⟨ft, at1, ct1⟩, -, -, -, -, -, -, -, ⟨ru, ac, no, a9, -⟩, -, -, ⟨fn, a48, n0, nb, nf, nl⟩, -, -, -, -⟩, ⟨⟨gs, as_, cs⟩, ⟨gw, aw, cw⟩, ⟨gl, al, cl⟩, ⟨g0, a0_, c0_⟩, ⟨g1, a1_, c1_⟩⟩⟩ := id c2
  have l1 := hb.1
  have l2 := hb.2.1
  have l3 := hb.2.2.1
  obtain ⟨b1_, b2_⟩ := hb.2.2.2.2.2.2.2.1 i hi
  have r6 := rt_lt6 hb le (by omega)
  have r7 := rt_lt6 hb (bLl s.2.2.1 i) (by omega)
  refine tX12_reckon_0  (r := ?_)
  refine tX12_reckon_1 (ha := (by first | assumption | (repeat (first | assumption | exact At.set_eq2 (by first | omega | (simp only [hset, hnew]; omega) | rfl | decide) | exact At.new_eq2 _ _ (by first | omega | (simp only [hset, hnew]; omega) | rfl | decide) | refine At.set_ne ?_ (by first | omega | (simp only [hset, hnew]; omega) | rfl | decide) | refine At.new_ne ?_)))) (hv := rfl) (r := ?_)
  refine tX12_reckon_4  (r := ?_)
  refine tX12_reckon_6  (r := ?_)
  refine tX12_reckon_7  (r := ?_)
  rw [nI_add]
  refine tX12_reckon_8 (ha := (by first | assumption | (repeat (first | assumption | exact At.set_eq2 (by first | omega | (simp only [hset, hnew]; omega) | rfl | decide) | exact At.new_eq2 _ _ (by first | omega | (simp only [hset, hnew]; omega) | rfl | decide) | refine At.set_ne ?_ (by first | omega | (simp only [hset, hnew]; omega) | rfl | decide) | refine At.new_ne ?_)))) (hx := rfl) (hj := (by omega)) (hn := (by decide)) (r := ?_)
  rw [nl _ hi]
  refine tX12_reckon_9  (r := ?_)
  refine tX12_reckon_11  (r := ?_)
  refine tX12_reckon_12 (n := 19) (hn := (by decide)) (r := ?_)
  show RQ _ _ _ 205 _ _ _ _
  refine tX12_reckon_205  (r := ?_)
  refine tX12_reckon_206  (r := ?_)
  refine tX12_reckon_207 (hd := (by omega)) (ha := (by first | assumption | (repeat (first | assumption | exact At.set_eq2 (by first | omega | (simp only [hset, hnew]; omega) | rfl | decide) | exact At.new_eq2 _ _ (by first | omega | (simp only [hset, hnew]; omega) | rfl | decide) | refine At.set_ne ?_ (by first | omega | (simp only [hset, hnew]; omega) | rfl | decide) | refine At.new_ne ?_)))) (call := s_leader (d := 5) c2 hb hn) (k := ?_)
  rintro x h_ ⟨rfl, e9⟩
  rw [e9]
  refine tX12_reckon_210  (r := ?_)
  refine tX12_reckon_211  (r := ?_)
  refine tX12_reckon_212 (ha := (by first | assumption | (repeat (first | assumption | exact At.set_eq2 (by first | omega | (simp only [hset, hnew]; omega) | rfl | decide) | exact At.new_eq2 _ _ (by first | omega | (simp only [hset, hnew]; omega) | rfl | decide) | refine At.set_ne ?_ (by first | omega | (simp only [hset, hnew]; omega) | rfl | decide) | refine At.new_ne ?_)))) (hv := rfl) (r := ?_)
  refine tX12_reckon_215 (ha := (by first | assumption | (repeat (first | assumption | exact At.set_eq2 (by first | omega | (simp only [hset, hnew]; omega) | rfl | decide) | exact At.new_eq2 _ _ (by first | omega | (simp only [hset, hnew]; omega) | rfl | decide) | refine At.set_ne ?_ (by first | omega | (simp only [hset, hnew]; omega) | rfl | decide) | refine At.new_ne ?_)))) (hv := rfl) (r := ?_)
  refine tX12_reckon_218  (r := ?_)
  refine tX12_reckon_219 (ha := (by first | assumption | (repeat (first | assumption | exact At.set_eq2 (by first | omega | (simp only [hset, hnew]; omega) | rfl | decide) | exact At.new_eq2 _ _ (by first | omega | (simp only [hset, hnew]; omega) | rfl | decide) | refine At.set_ne ?_ (by first | omega | (simp only [hset, hnew]; omega) | rfl | decide) | refine At.new_ne ?_)))) (hx := rfl) (hj := (by omega)) (hn := (by decide)) (r := ?_)
  rw [cl _ hi]
  refine tX12_reckon_220 (hd := (by omega)) (ha := (by first | assumption | (repeat (first | assumption | exact At.set_eq2 (by first | omega | (simp only [hset, hnew]; omega) | rfl | decide) | exact At.new_eq2 _ _ (by first | omega | (simp only [hset, hnew]; omega) | rfl | decide) | refine At.set_ne ?_ (by first | omega | (simp only [hset, hnew]; omega) | rfl | decide) | refine At.new_ne ?_)))) (call := s_leader (d := 5) c2 hb b1_) (k := ?_)
  rintro x2 h_ ⟨rfl, e9⟩
  rw [e9]
  refine tX12_reckon_223  (kt := fun c_223 => ?_) (kf := fun c_223 => ?_)
  · have e : ndV s.2.2.1 s.2.2.2 i 19 le ri v = nI 0 := if_neg (c := rt (dF s.2.2.2) (bLl s.2.2.1 i) = rt (dF s.2.2.2) le) (fun z => c_223 (by rw [z]))
    refine tX12_reckon_230  (r := ?_)
    refine tX12_reckon_231  (hP := ?_)
    exact ⟨_, rfl, e.symm, c2, Sm.rf _ _ _⟩
  · have e : ndV s.2.2.1 s.2.2.2 i 19 le ri v = nI 1 := if_pos (c := rt (dF s.2.2.2) (bLl s.2.2.1 i) = rt (dF s.2.2.2) le) ((nI_eq (by omega) (by omega)).mp c_223).symm
    refine tX12_reckon_226  (r := ?_)
    refine tX12_reckon_227 (r := ?_)
    refine tX12_reckon_231  (hP := ?_)
    exact ⟨_, rfl, e.symm, c2, Sm.rf _ _ _⟩

set_option maxHeartbeats 4000000 in
set_option maxRecDepth 100000 in
theorem s_rk15 (hd : 6 ≤ d) {th : Int32} (c2 : MoT h 216 th s) (hb : BDok s.2.2.1 s.2.2.2) {i : Nat} (hi : i < bLi s.2.2.1) {le ri : Nat} {v : Nat → Int32} (av : At h (216 + 47) (.inl (0, 800, .inl v))) (h8 : le < 800) : RQ G mX12_reckon d 0 [some (.ref 216), some (.int (nI i)), some (.int (nI 15)), some (.int (nI le)), some (.int (nI ri)), none] [] h (Ri fun x h1 => x = ndV s.2.2.1 s.2.2.2 i 15 le ri v ∧ MoT h1 216 th s ∧ Sm h h1 (216 + 50) (216 + 53)) := by
  obtain ⟨⟨tk, iw, er, et, dp, nm, am⟩, ⟨-, ⟨ft, at1, ct1⟩, -, -, -, -, -, -, -, ⟨ru, ac, no, a9, -⟩, -, -, ⟨fn, a48, n0, nb, nf, nl⟩, -, -, -, -⟩, ⟨⟨gs, as_, cs⟩, ⟨gw, aw, cw⟩, ⟨gl, al, cl⟩, ⟨g0, a0_, c0_⟩, ⟨g1, a1_, c1_⟩⟩⟩ := id c2
  have l1 := hb.1
  have l2 := hb.2.1
  have l3 := hb.2.2.1
  obtain ⟨b1_, b2_⟩ := hb.2.2.2.2.2.2.2.1 i hi
  refine tX12_reckon_0  (r := ?_)
  refine tX12_reckon_1 (ha := (by first | assumption | (repeat (first | assumption | exact At.set_eq2 (by first | omega | (simp only [hset, hnew]; omega) | rfl | decide) | exact At.new_eq2 _ _ (by first | omega | (simp only [hset, hnew]; omega) | rfl | decide) | refine At.set_ne ?_ (by first | omega | (simp only [hset, hnew]; omega) | rfl | decide) | refine At.new_ne ?_)))) (hv := rfl) (r := ?_)
  refine tX12_reckon_4  (r := ?_)
  refine tX12_reckon_6  (r := ?_)
  refine tX12_reckon_7  (r := ?_)
  rw [nI_add]
  refine tX12_reckon_8 (ha := (by first | assumption | (repeat (first | assumption | exact At.set_eq2 (by first | omega | (simp only [hset, hnew]; omega) | rfl | decide) | exact At.new_eq2 _ _ (by first | omega | (simp only [hset, hnew]; omega) | rfl | decide) | refine At.set_ne ?_ (by first | omega | (simp only [hset, hnew]; omega) | rfl | decide) | refine At.new_ne ?_)))) (hx := rfl) (hj := (by omega)) (hn := (by decide)) (r := ?_)
  rw [nl _ hi]
  refine tX12_reckon_9  (r := ?_)
  refine tX12_reckon_11  (r := ?_)
  refine tX12_reckon_12 (n := 15) (hn := (by decide)) (r := ?_)
  show RQ _ _ _ 232 _ _ _ _
  refine tX12_reckon_232  (r := ?_)
  refine tX12_reckon_233  (r := ?_)
  refine tX12_reckon_234 (ha := (by first | assumption | (repeat (first | assumption | exact At.set_eq2 (by first | omega | (simp only [hset, hnew]; omega) | rfl | decide) | exact At.new_eq2 _ _ (by first | omega | (simp only [hset, hnew]; omega) | rfl | decide) | refine At.set_ne ?_ (by first | omega | (simp only [hset, hnew]; omega) | rfl | decide) | refine At.new_ne ?_)))) (hv := rfl) (r := ?_)
  refine tX12_reckon_237  (r := ?_)
  refine tX12_reckon_238 (ha := (by first | assumption | (repeat (first | assumption | exact At.set_eq2 (by first | omega | (simp only [hset, hnew]; omega) | rfl | decide) | exact At.new_eq2 _ _ (by first | omega | (simp only [hset, hnew]; omega) | rfl | decide) | refine At.set_ne ?_ (by first | omega | (simp only [hset, hnew]; omega) | rfl | decide) | refine At.new_ne ?_)))) (hx := rfl) (hj := h8) (hn := (by decide)) (r := ?_)
  refine tX12_reckon_239  (r := ?_)
  refine tX12_reckon_240  (hP := ?_)
  exact ⟨_, rfl, rfl, c2, Sm.rf _ _ _⟩

set_option maxHeartbeats 4000000 in
set_option maxRecDepth 100000 in
theorem s_rkE (hd : 6 ≤ d) {th : Int32} (c2 : MoT h 216 th s) (hb : BDok s.2.2.1 s.2.2.2) {i : Nat} (hi : i < bLi s.2.2.1) {le ri : Nat} {v : Nat → Int32} (av : At h (216 + 47) (.inl (0, 800, .inl v))) {so : Nat} (h60 : so < 60) (n31 : ¬ so = 31) (nlk : isLk so = false) (n15 : ¬ so = 15) (h8 : le < 800) (h9 : ri < 800) : RQ G mX12_reckon d 0 [some (.ref 216), some (.int (nI i)), some (.int (nI so)), some (.int (nI le)), some (.int (nI ri)), none] [] h (Ri fun x h1 => x = ndV s.2.2.1 s.2.2.2 i so le ri v ∧ MoT h1 216 th s ∧ Sm h h1 (216 + 50) (216 + 53)) := by
  obtain ⟨⟨tk, iw, er, et, dp, nm, am⟩, ⟨-, ⟨ft, at1, ct1⟩, -, -, -, -, -, -, -, ⟨ru, ac, no, a9, -⟩, -, -, ⟨fn, a48, n0, nb, nf, nl⟩, -, -, -, -⟩, ⟨⟨gs, as_, cs⟩, ⟨gw, aw, cw⟩, ⟨gl, al, cl⟩, ⟨g0, a0_, c0_⟩, ⟨g1, a1_, c1_⟩⟩⟩ := id c2
  have l1 := hb.1
  have l2 := hb.2.1
  have l3 := hb.2.2.1
  obtain ⟨b1_, b2_⟩ := hb.2.2.2.2.2.2.2.1 i hi
  have en : ndV s.2.2.1 s.2.2.2 i so le ri v = jnM so (v le) (v ri) := by
    unfold ndV
    rw [if_neg n31, if_neg (by rw [nlk]; decide), if_neg n15]
  refine tX12_reckon_0  (r := ?_)
  refine tX12_reckon_1 (ha := (by first | assumption | (repeat (first | assumption | exact At.set_eq2 (by first | omega | (simp only [hset, hnew]; omega) | rfl | decide) | exact At.new_eq2 _ _ (by first | omega | (simp only [hset, hnew]; omega) | rfl | decide) | refine At.set_ne ?_ (by first | omega | (simp only [hset, hnew]; omega) | rfl | decide) | refine At.new_ne ?_)))) (hv := rfl) (r := ?_)
  refine tX12_reckon_4  (r := ?_)
  refine tX12_reckon_6  (r := ?_)
  refine tX12_reckon_7  (r := ?_)
  rw [nI_add]
  refine tX12_reckon_8 (ha := (by first | assumption | (repeat (first | assumption | exact At.set_eq2 (by first | omega | (simp only [hset, hnew]; omega) | rfl | decide) | exact At.new_eq2 _ _ (by first | omega | (simp only [hset, hnew]; omega) | rfl | decide) | refine At.set_ne ?_ (by first | omega | (simp only [hset, hnew]; omega) | rfl | decide) | refine At.new_ne ?_)))) (hx := rfl) (hj := (by omega)) (hn := (by decide)) (r := ?_)
  rw [nl _ hi]
  refine tX12_reckon_9  (r := ?_)
  refine tX12_reckon_11  (r := ?_)
  refine tX12_reckon_12 (n := so) (hn := h60) (r := ?_)
  rw [sw_rk so h60 n31 nlk n15]
  refine tX12_reckon_241  (r := ?_)
  refine tX12_reckon_242  (r := ?_)
  refine tX12_reckon_243 (ha := (by first | assumption | (repeat (first | assumption | exact At.set_eq2 (by first | omega | (simp only [hset, hnew]; omega) | rfl | decide) | exact At.new_eq2 _ _ (by first | omega | (simp only [hset, hnew]; omega) | rfl | decide) | refine At.set_ne ?_ (by first | omega | (simp only [hset, hnew]; omega) | rfl | decide) | refine At.new_ne ?_)))) (hv := rfl) (r := ?_)
  refine tX12_reckon_246  (r := ?_)
  refine tX12_reckon_247 (ha := (by first | assumption | (repeat (first | assumption | exact At.set_eq2 (by first | omega | (simp only [hset, hnew]; omega) | rfl | decide) | exact At.new_eq2 _ _ (by first | omega | (simp only [hset, hnew]; omega) | rfl | decide) | refine At.set_ne ?_ (by first | omega | (simp only [hset, hnew]; omega) | rfl | decide) | refine At.new_ne ?_)))) (hx := rfl) (hj := h8) (hn := (by decide)) (r := ?_)
  refine tX12_reckon_248  (r := ?_)
  refine tX12_reckon_249 (ha := (by first | assumption | (repeat (first | assumption | exact At.set_eq2 (by first | omega | (simp only [hset, hnew]; omega) | rfl | decide) | exact At.new_eq2 _ _ (by first | omega | (simp only [hset, hnew]; omega) | rfl | decide) | refine At.set_ne ?_ (by first | omega | (simp only [hset, hnew]; omega) | rfl | decide) | refine At.new_ne ?_)))) (hv := rfl) (r := ?_)
  refine tX12_reckon_252  (r := ?_)
  refine tX12_reckon_254 (ha := (by first | assumption | (repeat (first | assumption | exact At.set_eq2 (by first | omega | (simp only [hset, hnew]; omega) | rfl | decide) | exact At.new_eq2 _ _ (by first | omega | (simp only [hset, hnew]; omega) | rfl | decide) | refine At.set_ne ?_ (by first | omega | (simp only [hset, hnew]; omega) | rfl | decide) | refine At.new_ne ?_)))) (hx := rfl) (hj := h9) (hn := (by decide)) (r := ?_)
  refine tX12_reckon_255 (hd := (by omega)) (call := s_joined (d := 5) h60) (k := ?_)
  rintro x h_ ⟨rfl, e9⟩
  rw [e9]
  refine tX12_reckon_258  (hP := ?_)
  exact ⟨_, rfl, en.symm, c2, Sm.rf _ _ _⟩

theorem s_rk (hd : 6 ≤ d) {th : Int32} (c2 : MoT h 216 th s) (hb : BDok s.2.2.1 s.2.2.2) {i : Nat} (hi : i < bLi s.2.2.1) {le ri : Nat} {v : Nat → Int32} (av : At h (216 + 47) (.inl (0, 800, .inl v))) {so : Nat} (ok : okN s.2.2.1 so le ri) : RQ G mX12_reckon d 0 [some (.ref 216), some (.int (nI i)), some (.int (nI so)), some (.int (nI le)), some (.int (nI ri)), none] [] h (Ri fun x h1 => x = ndV s.2.2.1 s.2.2.2 i so le ri v ∧ MoT h1 216 th s ∧ Sm h h1 (216 + 50) (216 + 53)) := by
  obtain ⟨h60, -, hn, h8⟩ := ok
  by_cases n31 : so = 31
  · subst n31
    exact s_rk31 hd c2 hb hi av
  · cases hk : isLk so with
    | true =>
      rcases isLk_or hk with e | e | e | e | e | e | e
      · subst e
        exact s_rk2 hd c2 hb hi av (hn (by decide))
      · subst e
        exact s_rk18 hd c2 hb hi av (hn (by decide))
      · subst e
        exact s_rk19 hd c2 hb hi av (hn (by decide))
      · subst e
        exact s_rk20 hd c2 hb hi av
      · subst e
        exact s_rk21 hd c2 hb hi av (hn (by decide))
      · subst e
        exact s_rk22 hd c2 hb hi av
      · subst e
        exact s_rk23 hd c2 hb hi av
    | false =>
      obtain ⟨q1, q2⟩ := h8 n31 hk
      by_cases n15 : so = 15
      · subst n15
        exact s_rk15 hd c2 hb hi av q1
      · exact s_rkE hd c2 hb hi av h60 n31 hk n15 q1 q2

set_option maxHeartbeats 4000000 in
set_option maxRecDepth 100000 in
theorem s_rkAll_l (hd : 7 ≤ d) {th : Int32} (hb : BDok s.2.2.1 s.2.2.2) {i : Nat} (hi : i < bLi s.2.2.1) {f t : Nat} (hft : f ≤ t) (ht : t < nNo s.2.2.1) {v : Nat → Int32} : ∀ (n m : Nat) (h : AH), t + 1 - f ≤ m + n → m ≤ t + 1 - f → MoT h 216 th s → At h (216 + 47) (.inl (0, 800, .inl (evN s.2.2.1 s.2.2.2 i f m v))) → Sv h0 h → RQ G mX12_reckonAll d 3 [some (.ref 216), some (.int (nI i)), some (.int (nI f)), some (.int (nI t)), some (.int (nI (f + m)))] [] h (Ri fun x h1 => x = (evN s.2.2.1 s.2.2.2 i f (t + 1 - f) v) t ∧ MoT h1 216 th s ∧ At h1 (216 + 47) (.inl (0, 800, .inl (evN s.2.2.1 s.2.2.2 i f (t + 1 - f) v))) ∧ Sv h0 h1) := by
  have hw := hb.bs.1
  have h8 := hw.2.2.1
  have ex : ∀ (m : Nat) (h : AH), m = t + 1 - f → MoT h 216 th s → At h (216 + 47) (.inl (0, 800, .inl (evN s.2.2.1 s.2.2.2 i f m v))) → Sv h0 h → RQ G mX12_reckonAll d 3 [some (.ref 216), some (.int (nI i)), some (.int (nI f)), some (.int (nI t)), some (.int (nI (f + m)))] [] h (Ri fun x h1 => x = (evN s.2.2.1 s.2.2.2 i f (t + 1 - f) v) t ∧ MoT h1 216 th s ∧ At h1 (216 + 47) (.inl (0, 800, .inl (evN s.2.2.1 s.2.2.2 i f (t + 1 - f) v))) ∧ Sv h0 h1) := by
    intro m h hm c2 av sv
    obtain ⟨⟨tk, iw, er, et, dp, nm, am⟩, ⟨-, ⟨ft, at1, ct1⟩, -, -, -, -, -, -, -, ⟨ru, ac, no, a9, -, nor⟩, -, -, ⟨fn, a48, n0, nb, nf, nl⟩, -, -, -, -⟩, ⟨⟨gs, as_, cs⟩, ⟨gw, aw, cw⟩, ⟨gl, al, cl⟩, ⟨g0, a0_, c0_⟩, ⟨g1, a1_, c1_⟩⟩⟩ := id c2
    refine tX12_reckonAll_3  (r := ?_)
    refine tX12_reckonAll_5  (r := ?_)
    refine tX12_reckonAll_6  (kf := fun c_ => by exfalso; exact c_ ((nI_ltI (by omega) (by omega)).mpr (by omega))) (kt := fun _ => ?_)
    refine tX12_reckonAll_57  (r := ?_)
    refine tX12_reckonAll_58 (ha := (by first | assumption | (repeat (first | assumption | exact At.set_eq2 (by first | omega | (simp only [hset, hnew]; omega) | rfl | decide) | exact At.new_eq2 _ _ (by first | omega | (simp only [hset, hnew]; omega) | rfl | decide) | refine At.set_ne ?_ (by first | omega | (simp only [hset, hnew]; omega) | rfl | decide) | refine At.new_ne ?_)))) (hv := rfl) (r := ?_)
    refine tX12_reckonAll_61  (r := ?_)
    refine tX12_reckonAll_62 (ha := av) (hx := rfl) (hj := (by omega)) (hn := (by decide)) (r := ?_)
    refine tX12_reckonAll_63  (hP := ?_)
    rw [show m = t + 1 - f by omega] at av ⊢
    exact ⟨_, rfl, rfl, c2, av, sv⟩
  intro n
  induction n with
  | zero => exact fun m h e1 e2 => ex m h (by omega)
  | succ n ih =>
    intro m h e1 e2 c2 av sv
    by_cases hm : m = t + 1 - f
    · exact ex m h hm c2 av sv
    obtain ⟨⟨tk, iw, er, et, dp, nm, am⟩, ⟨-, ⟨ft, at1, ct1⟩, -, -, -, -, -, -, -, ⟨ru, ac, no, a9, -, nor⟩, -, -, ⟨fn, a48, n0, nb, nf, nl⟩, -, -, -, -⟩, ⟨⟨gs, as_, cs⟩, ⟨gw, aw, cw⟩, ⟨gl, al, cl⟩, ⟨g0, a0_, c0_⟩, ⟨g1, a1_, c1_⟩⟩⟩ := id c2
    obtain ⟨-, -, -, -, -, -, -, -, ⟨s1, s2, s3⟩, ⟨l1_, l2_, l3_⟩, ⟨r1, r2, r3⟩⟩ := nor
    refine tX12_reckonAll_3  (r := ?_)
    refine tX12_reckonAll_5  (r := ?_)
    refine tX12_reckonAll_6  (kt := fun c_ => by exfalso; exact absurd ((nI_ltI (by omega) (by omega)).mp c_) (by omega)) (kf := fun _ => ?_)
    refine tX12_reckonAll_9  (r := ?_)
    refine tX12_reckonAll_10 (ha := (by first | assumption | (repeat (first | assumption | exact At.set_eq2 (by first | omega | (simp only [hset, hnew]; omega) | rfl | decide) | exact At.new_eq2 _ _ (by first | omega | (simp only [hset, hnew]; omega) | rfl | decide) | refine At.set_ne ?_ (by first | omega | (simp only [hset, hnew]; omega) | rfl | decide) | refine At.new_ne ?_)))) (hv := rfl) (r := ?_)
    refine tX12_reckonAll_13  (r := ?_)
    refine tX12_reckonAll_15  (r := ?_)
    refine tX12_reckonAll_16  (r := ?_)
    refine tX12_reckonAll_17  (r := ?_)
    refine tX12_reckonAll_18 (ha := (by first | assumption | (repeat (first | assumption | exact At.set_eq2 (by first | omega | (simp only [hset, hnew]; omega) | rfl | decide) | exact At.new_eq2 _ _ (by first | omega | (simp only [hset, hnew]; omega) | rfl | decide) | refine At.set_ne ?_ (by first | omega | (simp only [hset, hnew]; omega) | rfl | decide) | refine At.new_ne ?_)))) (hv := rfl) (r := ?_)
    refine tX12_reckonAll_21 (ha := (by first | assumption | (repeat (first | assumption | exact At.set_eq2 (by first | omega | (simp only [hset, hnew]; omega) | rfl | decide) | exact At.new_eq2 _ _ (by first | omega | (simp only [hset, hnew]; omega) | rfl | decide) | refine At.set_ne ?_ (by first | omega | (simp only [hset, hnew]; omega) | rfl | decide) | refine At.new_ne ?_)))) (hv := rfl) (r := ?_)
    refine tX12_reckonAll_24  (r := ?_)
    refine tX12_reckonAll_26 (ha := (by first | assumption | (repeat (first | assumption | exact At.set_eq2 (by first | omega | (simp only [hset, hnew]; omega) | rfl | decide) | exact At.new_eq2 _ _ (by first | omega | (simp only [hset, hnew]; omega) | rfl | decide) | refine At.set_ne ?_ (by first | omega | (simp only [hset, hnew]; omega) | rfl | decide) | refine At.new_ne ?_)))) (hx := rfl) (hj := (by omega)) (hn := (by decide)) (r := ?_)
    rw [s3 _ (by omega)]
    refine tX12_reckonAll_27  (r := ?_)
    refine tX12_reckonAll_28 (ha := (by first | assumption | (repeat (first | assumption | exact At.set_eq2 (by first | omega | (simp only [hset, hnew]; omega) | rfl | decide) | exact At.new_eq2 _ _ (by first | omega | (simp only [hset, hnew]; omega) | rfl | decide) | refine At.set_ne ?_ (by first | omega | (simp only [hset, hnew]; omega) | rfl | decide) | refine At.new_ne ?_)))) (hv := rfl) (r := ?_)
    refine tX12_reckonAll_31 (ha := (by first | assumption | (repeat (first | assumption | exact At.set_eq2 (by first | omega | (simp only [hset, hnew]; omega) | rfl | decide) | exact At.new_eq2 _ _ (by first | omega | (simp only [hset, hnew]; omega) | rfl | decide) | refine At.set_ne ?_ (by first | omega | (simp only [hset, hnew]; omega) | rfl | decide) | refine At.new_ne ?_)))) (hv := rfl) (r := ?_)
    refine tX12_reckonAll_34  (r := ?_)
    refine tX12_reckonAll_36 (ha := (by first | assumption | (repeat (first | assumption | exact At.set_eq2 (by first | omega | (simp only [hset, hnew]; omega) | rfl | decide) | exact At.new_eq2 _ _ (by first | omega | (simp only [hset, hnew]; omega) | rfl | decide) | refine At.set_ne ?_ (by first | omega | (simp only [hset, hnew]; omega) | rfl | decide) | refine At.new_ne ?_)))) (hx := rfl) (hj := (by omega)) (hn := (by decide)) (r := ?_)
    rw [l3_ _ (by omega)]
    refine tX12_reckonAll_37  (r := ?_)
    refine tX12_reckonAll_38 (ha := (by first | assumption | (repeat (first | assumption | exact At.set_eq2 (by first | omega | (simp only [hset, hnew]; omega) | rfl | decide) | exact At.new_eq2 _ _ (by first | omega | (simp only [hset, hnew]; omega) | rfl | decide) | refine At.set_ne ?_ (by first | omega | (simp only [hset, hnew]; omega) | rfl | decide) | refine At.new_ne ?_)))) (hv := rfl) (r := ?_)
    refine tX12_reckonAll_41 (ha := (by first | assumption | (repeat (first | assumption | exact At.set_eq2 (by first | omega | (simp only [hset, hnew]; omega) | rfl | decide) | exact At.new_eq2 _ _ (by first | omega | (simp only [hset, hnew]; omega) | rfl | decide) | refine At.set_ne ?_ (by first | omega | (simp only [hset, hnew]; omega) | rfl | decide) | refine At.new_ne ?_)))) (hv := rfl) (r := ?_)
    refine tX12_reckonAll_44  (r := ?_)
    refine tX12_reckonAll_46 (ha := (by first | assumption | (repeat (first | assumption | exact At.set_eq2 (by first | omega | (simp only [hset, hnew]; omega) | rfl | decide) | exact At.new_eq2 _ _ (by first | omega | (simp only [hset, hnew]; omega) | rfl | decide) | refine At.set_ne ?_ (by first | omega | (simp only [hset, hnew]; omega) | rfl | decide) | refine At.new_ne ?_)))) (hx := rfl) (hj := (by omega)) (hn := (by decide)) (r := ?_)
    rw [r3 _ (by omega)]
    refine tX12_reckonAll_47 (hd := (by omega)) (ha := (by first | assumption | (repeat (first | assumption | exact At.set_eq2 (by first | omega | (simp only [hset, hnew]; omega) | rfl | decide) | exact At.new_eq2 _ _ (by first | omega | (simp only [hset, hnew]; omega) | rfl | decide) | refine At.set_ne ?_ (by first | omega | (simp only [hset, hnew]; omega) | rfl | decide) | refine At.new_ne ?_)))) (call := s_rk (d := 6) (by decide) c2 hb hi av (hw.2.2.2.2.2.1 (f + m) (by omega))) (k := ?_)
    rintro x h1 ⟨rfl, c3, sm1⟩
    have av1 := sm1.at av (by omega)
    obtain ⟨⟨tk3, iw3, er3, et3, dp3, nm3, am3⟩, -⟩ := id c3
    refine tX12_reckonAll_50 (ha := av1) (hx := rfl) (hj := (by omega)) (hn := (by decide)) (r := ?_)
    refine tX12_reckonAll_51  (r := ?_)
    rw [nI_add]
    refine tX12_reckonAll_54 (r := ?_)
    exact ih (m + 1) _ (by omega) (by omega) (c3.val _) (At.set_eq2 av1.1) (sv.trans ((Sv.of sm1 c2.room).trans ⟨(Sm.rf _ _ _).set (by omega) (by omega), Un.set (Un.rf _ _ _) (by omega)⟩))

set_option maxHeartbeats 4000000 in
set_option maxRecDepth 100000 in
theorem s_rkAll (hd : 7 ≤ d) {th : Int32} (hb : BDok s.2.2.1 s.2.2.2) {i : Nat} (hi : i < bLi s.2.2.1) {f t : Nat} (hft : f ≤ t) (ht : t < nNo s.2.2.1) {v : Nat → Int32} (c2 : MoT h0 216 th s) (av : At h0 (216 + 47) (.inl (0, 800, .inl v))) : RQ G mX12_reckonAll d 0 [some (.ref 216), some (.int (nI i)), some (.int (nI f)), some (.int (nI t)), none] [] h0 (Ri fun x h1 => x = (evN s.2.2.1 s.2.2.2 i f (t + 1 - f) v) t ∧ MoT h1 216 th s ∧ At h1 (216 + 47) (.inl (0, 800, .inl (evN s.2.2.1 s.2.2.2 i f (t + 1 - f) v))) ∧ Sv h0 h1) := by
  refine tX12_reckonAll_0  (r := ?_)
  refine tX12_reckonAll_1  (r := ?_)
  exact s_rkAll_l hd hb hi hft ht (t + 1 - f) 0 h0 (by omega) (by omega) c2 av (Sv.rf _)

set_option maxHeartbeats 4000000 in
set_option maxRecDepth 100000 in
theorem s_ruleOf_l (hd : 8 ≤ d) {th : Int32} (hb : BDok s.2.2.1 s.2.2.2) {i : Nat} (hi : i < bLi s.2.2.1) : ∀ (m a : Nat) (h : AH), (bRu s.2.2.1 i).1 ≤ a → a + m = (bRu s.2.2.1 i).2 → MoT h 216 th s → Sv h0 h → RQ G mX12_ruleOf d 10 [some (.ref 216), some (.int (nI i)), some (.int (nI a))] [] h (Ri fun x h1 => x = oI (rfN s.2.2.1 s.2.2.2 i a m) ∧ MoT h1 216 th s ∧ Sv h0 h1) := by
  obtain ⟨hw, hs⟩ := hb.bs
  have h24 := hw.2.1
  have hl := hw.2.2.2.2.2.2.1 i hi
  have l3 := hb.2.2.1
  intro m
  induction m with
  | zero =>
    intro a h e1 e2 c2 sv
    obtain ⟨⟨tk, iw, er, et, dp, nm, am⟩, ⟨-, ⟨ft, at1, ct1⟩, -, -, -, -, -, -, -, ⟨ru, ac, no, a9, -, nor⟩, -, -, ⟨fn, a48, n0, nb, nf, nl⟩, -, -, -, -⟩, ⟨⟨gs, as_, cs⟩, ⟨gw, aw, cw⟩, ⟨gl, al, cl⟩, ⟨g0, a0_, c0_⟩, ⟨g1, a1_, c1_⟩⟩⟩ := id c2
    refine tX12_ruleOf_10  (r := ?_)
    refine tX12_ruleOf_11  (r := ?_)
    refine tX12_ruleOf_12 (ha := (by first | assumption | (repeat (first | assumption | exact At.set_eq2 (by first | omega | (simp only [hset, hnew]; omega) | rfl | decide) | exact At.new_eq2 _ _ (by first | omega | (simp only [hset, hnew]; omega) | rfl | decide) | refine At.set_ne ?_ (by first | omega | (simp only [hset, hnew]; omega) | rfl | decide) | refine At.new_ne ?_)))) (hv := rfl) (r := ?_)
    refine tX12_ruleOf_15 (ha := (by first | assumption | (repeat (first | assumption | exact At.set_eq2 (by first | omega | (simp only [hset, hnew]; omega) | rfl | decide) | exact At.new_eq2 _ _ (by first | omega | (simp only [hset, hnew]; omega) | rfl | decide) | refine At.set_ne ?_ (by first | omega | (simp only [hset, hnew]; omega) | rfl | decide) | refine At.new_ne ?_)))) (hv := rfl) (r := ?_)
    refine tX12_ruleOf_18  (r := ?_)
    refine tX12_ruleOf_19 (ha := (by first | assumption | (repeat (first | assumption | exact At.set_eq2 (by first | omega | (simp only [hset, hnew]; omega) | rfl | decide) | exact At.new_eq2 _ _ (by first | omega | (simp only [hset, hnew]; omega) | rfl | decide) | refine At.set_ne ?_ (by first | omega | (simp only [hset, hnew]; omega) | rfl | decide) | refine At.new_ne ?_)))) (hx := rfl) (hj := (by omega)) (hn := (by decide)) (r := ?_)
    rw [c1_ _ hi]
    refine tX12_ruleOf_20  (kf := fun c_ => by exfalso; exact c_ ((nI_leI (by omega) (by omega)).mpr (by omega))) (kt := fun _ => ?_)
    refine tX12_ruleOf_58  (r := ?_)
    refine tX12_ruleOf_59  (hP := ?_)
    exact ⟨_, rfl, rfl, c2, sv⟩
  | succ m ih =>
    intro a h e1 e2 c2 sv
    obtain ⟨⟨tk, iw, er, et, dp, nm, am⟩, ⟨-, ⟨ft, at1, ct1⟩, -, -, -, -, -, -, -, ⟨ru, ac, no, a9, -, nor⟩, -, ⟨fv, a47⟩, ⟨fn, a48, n0, nb, nf, nl⟩, -, -, -, -⟩, ⟨⟨gs, as_, cs⟩, ⟨gw, aw, cw⟩, ⟨gl, al, cl⟩, ⟨g0, a0_, c0_⟩, ⟨g1, a1_, c1_⟩⟩⟩ := id c2
    obtain ⟨⟨q1, q2, q3⟩, ⟨p1, p2, p3⟩, -⟩ := nor
    obtain ⟨-, ⟨w1_, w2_⟩, -⟩ := hw.2.2.2.2.2.2.2 a (by omega)
    obtain ⟨⟨x, hx01, hx1, hx2⟩, -⟩ := hs i s.2.2.2 hi hb.nine a e1 (by omega)
    have hx01 : x = 0 ∨ x = nI 1 := hx01.elim (fun z => Or.inl (z.trans nI_0)) Or.inr
    have ev : tvV s.2.2.1 s.2.2.2 i a = x := by
      unfold tvV
      rw [hx1]
    refine tX12_ruleOf_10  (r := ?_)
    refine tX12_ruleOf_11  (r := ?_)
    refine tX12_ruleOf_12 (ha := (by first | assumption | (repeat (first | assumption | exact At.set_eq2 (by first | omega | (simp only [hset, hnew]; omega) | rfl | decide) | exact At.new_eq2 _ _ (by first | omega | (simp only [hset, hnew]; omega) | rfl | decide) | refine At.set_ne ?_ (by first | omega | (simp only [hset, hnew]; omega) | rfl | decide) | refine At.new_ne ?_)))) (hv := rfl) (r := ?_)
    refine tX12_ruleOf_15 (ha := (by first | assumption | (repeat (first | assumption | exact At.set_eq2 (by first | omega | (simp only [hset, hnew]; omega) | rfl | decide) | exact At.new_eq2 _ _ (by first | omega | (simp only [hset, hnew]; omega) | rfl | decide) | refine At.set_ne ?_ (by first | omega | (simp only [hset, hnew]; omega) | rfl | decide) | refine At.new_ne ?_)))) (hv := rfl) (r := ?_)
    refine tX12_ruleOf_18  (r := ?_)
    refine tX12_ruleOf_19 (ha := (by first | assumption | (repeat (first | assumption | exact At.set_eq2 (by first | omega | (simp only [hset, hnew]; omega) | rfl | decide) | exact At.new_eq2 _ _ (by first | omega | (simp only [hset, hnew]; omega) | rfl | decide) | refine At.set_ne ?_ (by first | omega | (simp only [hset, hnew]; omega) | rfl | decide) | refine At.new_ne ?_)))) (hx := rfl) (hj := (by omega)) (hn := (by decide)) (r := ?_)
    rw [c1_ _ hi]
    refine tX12_ruleOf_20  (kt := fun c_ => by exfalso; exact absurd ((nI_leI (by omega) (by omega)).mp c_) (by omega)) (kf := fun _ => ?_)
    refine tX12_ruleOf_23  (r := ?_)
    refine tX12_ruleOf_24  (r := ?_)
    refine tX12_ruleOf_25  (r := ?_)
    refine tX12_ruleOf_26 (ha := (by first | assumption | (repeat (first | assumption | exact At.set_eq2 (by first | omega | (simp only [hset, hnew]; omega) | rfl | decide) | exact At.new_eq2 _ _ (by first | omega | (simp only [hset, hnew]; omega) | rfl | decide) | refine At.set_ne ?_ (by first | omega | (simp only [hset, hnew]; omega) | rfl | decide) | refine At.new_ne ?_)))) (hv := rfl) (r := ?_)
    refine tX12_ruleOf_29 (ha := (by first | assumption | (repeat (first | assumption | exact At.set_eq2 (by first | omega | (simp only [hset, hnew]; omega) | rfl | decide) | exact At.new_eq2 _ _ (by first | omega | (simp only [hset, hnew]; omega) | rfl | decide) | refine At.set_ne ?_ (by first | omega | (simp only [hset, hnew]; omega) | rfl | decide) | refine At.new_ne ?_)))) (hv := rfl) (r := ?_)
    refine tX12_ruleOf_32  (r := ?_)
    refine tX12_ruleOf_33 (ha := (by first | assumption | (repeat (first | assumption | exact At.set_eq2 (by first | omega | (simp only [hset, hnew]; omega) | rfl | decide) | exact At.new_eq2 _ _ (by first | omega | (simp only [hset, hnew]; omega) | rfl | decide) | refine At.set_ne ?_ (by first | omega | (simp only [hset, hnew]; omega) | rfl | decide) | refine At.new_ne ?_)))) (hx := rfl) (hj := (by omega)) (hn := (by decide)) (r := ?_)
    rw [q3 _ (by omega)]
    refine tX12_ruleOf_34  (r := ?_)
    refine tX12_ruleOf_35 (ha := (by first | assumption | (repeat (first | assumption | exact At.set_eq2 (by first | omega | (simp only [hset, hnew]; omega) | rfl | decide) | exact At.new_eq2 _ _ (by first | omega | (simp only [hset, hnew]; omega) | rfl | decide) | refine At.set_ne ?_ (by first | omega | (simp only [hset, hnew]; omega) | rfl | decide) | refine At.new_ne ?_)))) (hv := rfl) (r := ?_)
    refine tX12_ruleOf_38 (ha := (by first | assumption | (repeat (first | assumption | exact At.set_eq2 (by first | omega | (simp only [hset, hnew]; omega) | rfl | decide) | exact At.new_eq2 _ _ (by first | omega | (simp only [hset, hnew]; omega) | rfl | decide) | refine At.set_ne ?_ (by first | omega | (simp only [hset, hnew]; omega) | rfl | decide) | refine At.new_ne ?_)))) (hv := rfl) (r := ?_)
    refine tX12_ruleOf_41  (r := ?_)
    refine tX12_ruleOf_42 (ha := (by first | assumption | (repeat (first | assumption | exact At.set_eq2 (by first | omega | (simp only [hset, hnew]; omega) | rfl | decide) | exact At.new_eq2 _ _ (by first | omega | (simp only [hset, hnew]; omega) | rfl | decide) | refine At.set_ne ?_ (by first | omega | (simp only [hset, hnew]; omega) | rfl | decide) | refine At.new_ne ?_)))) (hx := rfl) (hj := (by omega)) (hn := (by decide)) (r := ?_)
    rw [p3 _ (by omega)]
    refine tX12_ruleOf_43 (hd := (by omega)) (ha := (by first | assumption | (repeat (first | assumption | exact At.set_eq2 (by first | omega | (simp only [hset, hnew]; omega) | rfl | decide) | exact At.new_eq2 _ _ (by first | omega | (simp only [hset, hnew]; omega) | rfl | decide) | refine At.set_ne ?_ (by first | omega | (simp only [hset, hnew]; omega) | rfl | decide) | refine At.new_ne ?_)))) (call := s_rkAll (d := 7) (by decide) hb hi w1_ w2_ c2 a47) (k := ?_)
    rintro v h1 ⟨rfl, c3, -, sv1⟩
    rw [hx2]
    refine tX12_ruleOf_46  (r := ?_)
    refine tX12_ruleOf_47  (kt := fun c_47 => ?_) (kf := fun c_47 => ?_)
    · have x0 : x = 0 := hx01.elim (fun z => z) (fun z => absurd z c_47)
      have er : rfN s.2.2.1 s.2.2.2 i a (m + 1) = rfN s.2.2.1 s.2.2.2 i (a + 1) m := if_pos (ev.trans x0)
      refine tX12_ruleOf_52  (r := ?_)
      rw [nI_add]
      refine tX12_ruleOf_55 (r := ?_)
      rw [er]
      exact ih (a + 1) h1 (by omega) (by omega) c3 (sv.trans sv1)
    · have er : rfN s.2.2.1 s.2.2.2 i a (m + 1) = some a := if_neg (fun z => absurd ((ev.symm.trans z).symm.trans c_47) (by decide))
      refine tX12_ruleOf_50  (r := ?_)
      refine tX12_ruleOf_51  (hP := ?_)
      exact ⟨_, rfl, by rw [er]; rfl, c3, sv.trans sv1⟩

set_option maxHeartbeats 4000000 in
set_option maxRecDepth 100000 in
theorem s_ruleOf (hd : 8 ≤ d) {th : Int32} (hb : BDok s.2.2.1 s.2.2.2) {i : Nat} (hi : i < bLi s.2.2.1) (c2 : MoT h0 216 th s) : RQ G mX12_ruleOf d 0 [some (.ref 216), some (.int (nI i)), none] [] h0 (Ri fun x h1 => x = oI (rfD s.2.2.1 s.2.2.2 i) ∧ MoT h1 216 th s ∧ Sv h0 h1) := by
  obtain ⟨⟨tk, iw, er, et, dp, nm, am⟩, ⟨-, ⟨ft, at1, ct1⟩, -, -, -, -, -, -, -, ⟨ru, ac, no, a9, -⟩, -, -, ⟨fn, a48, n0, nb, nf, nl⟩, -, -, -, -⟩, ⟨⟨gs, as_, cs⟩, ⟨gw, aw, cw⟩, ⟨gl, al, cl⟩, ⟨g0, a0_, c0_⟩, ⟨g1, a1_, c1_⟩⟩⟩ := id c2
  have l3 := hb.2.2.1
  have hl := hb.bs.1.2.2.2.2.2.2.1 i hi
  refine tX12_ruleOf_0  (r := ?_)
  refine tX12_ruleOf_1 (ha := (by first | assumption | (repeat (first | assumption | exact At.set_eq2 (by first | omega | (simp only [hset, hnew]; omega) | rfl | decide) | exact At.new_eq2 _ _ (by first | omega | (simp only [hset, hnew]; omega) | rfl | decide) | refine At.set_ne ?_ (by first | omega | (simp only [hset, hnew]; omega) | rfl | decide) | refine At.new_ne ?_)))) (hv := rfl) (r := ?_)
  refine tX12_ruleOf_4 (ha := (by first | assumption | (repeat (first | assumption | exact At.set_eq2 (by first | omega | (simp only [hset, hnew]; omega) | rfl | decide) | exact At.new_eq2 _ _ (by first | omega | (simp only [hset, hnew]; omega) | rfl | decide) | refine At.set_ne ?_ (by first | omega | (simp only [hset, hnew]; omega) | rfl | decide) | refine At.new_ne ?_)))) (hv := rfl) (r := ?_)
  refine tX12_ruleOf_7  (r := ?_)
  refine tX12_ruleOf_8 (ha := (by first | assumption | (repeat (first | assumption | exact At.set_eq2 (by first | omega | (simp only [hset, hnew]; omega) | rfl | decide) | exact At.new_eq2 _ _ (by first | omega | (simp only [hset, hnew]; omega) | rfl | decide) | refine At.set_ne ?_ (by first | omega | (simp only [hset, hnew]; omega) | rfl | decide) | refine At.new_ne ?_)))) (hx := rfl) (hj := (by omega)) (hn := (by decide)) (r := ?_)
  rw [c0_ _ hi]
  refine tX12_ruleOf_9  (r := ?_)
  exact s_ruleOf_l hd hb hi _ _ h0 (Nat.le_refl _) (by omega) c2 (Sv.rf _)

end RKN
