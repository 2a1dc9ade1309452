/-! a text is taught, whole -/
section E1
variable {G : GT} {d k v : Nat} {h : AH} {t : List Nat}
/-- but for a, all is as it was -/
def Sa (h h1 : AH) (a : Nat) : Prop := h1.1 = h.1 ∧ h1.2.1 = h.2.1 ∧ ∀ z, z ≠ a → h1.2.2 z = h.2.2 z
theorem StN.set0 {a : Nat} {c : AC} {w : vp_A} (q : StN h k v t) (x : At h a (.inl (0, w))) : StN (hset h a c) k v t := by
  obtain ⟨⟨hs, hz8, b1⟩, g, b2, b3⟩ := q
  exact ⟨⟨hs, hz8, At.set_ne b1 (b1.ne x (by simp))⟩, g, At.set_ne b2 (b2.ne x (by simp)), b3⟩

theorem s_teach (hd : 90 ≤ d) {bk dr la e : Nat} {js : List EJa} {ls : List ELi} {er : Int32} {B : BK} {D : DY} (c : ClR h 0 bk dr (bkX e la js ls, er, B, D)) (hb : BDok B D) (hh : 216 ≤ h.1) (ok : okB e la js ls) (tb : ∀ x ∈ bkX e la js ls, x < 128) : RQ G mX10_teach d 0 [some (.ref 0), none] [] h (Ri fun r h1 => r = nI 0 ∧ ∃ dd, DrS la js ls dd ∧ BDok dd.1 (dyN dd) ∧ ClR h1 0 dr bk ([], -1, dd.1, dyN dd) ∧ Ch h h1 0 216 0 0) := by
  obtain ⟨xa, xb, xc, bD⟩ := c.2.2.2.1
  obtain ⟨w, te, tn, ae, O, w3, bw⟩ := bD.W
  obtain ⟨dd, ed, ds⟩ := bk_read ok w te tn ae O
  have kk : KOk (tkK (bkX e la js ls)) := (tw_tk (by have := (bk_len ok).2; omega) (fun i hi => by have := tb _ (gd_mem hi); omega)).kok
  have iv := Iv.ls kk 400 _ (Iv.z (K := tkK (bkX e la js ls)) (w := w) (te := te) (tn := tn) (ae := ae) (O := O) w3 (cn_le (T := bkX e la js ls)).1)
  rw [ed] at iv
  have bdd : BDok dd.1 (dyN dd) := Iv.ok kk iv rfl
  refine RQ.imp (k_teach hd c hb hh w3 bw (S := ((bkK e la js ls).length, 0, 0, dd)) ed.symm (fun _ => bdd)) ?_
  rintro o h1 ⟨e1, c1, ch⟩
  exact ⟨_, e1, rfl, dd, ds, bdd, c1, ch⟩

set_option maxHeartbeats 4000000 in
theorem s_ta5 (hd : 6 ≤ d) (tl : t.length ≤ 1200) (tb : ∀ c ∈ t, c < 128) {a p : Nat} {hb : AH} (hp : p ≤ 1220) {P : OC → AH → Prop} (r : (∀ (h1 : AH) (f : Nat → Int32) (x5 : Option Value), At h1 a (.inl (0, 5, .inl f)) → (∀ z, z < 5 → f z = nI (pkX t (p + 4 * z))) → StN h1 k v t → Sa hb h1 a → RQ G mL_taught d 93 [some (.ref 0), some (.ref k), some (.ref a), some (.int (nI p)), some (.int (nI 5)), x5] [] h1 P)) : ∀ (n q : Nat) (h9 : AH) (f : Nat → Int32) (x5 : Option Value), 5 ≤ q + n → q ≤ 5 → At h9 a (.inl (0, 5, .inl f)) → (∀ z, z < q → f z = nI (pkX t (p + 4 * z))) → StN h9 k v t → Sa hb h9 a → RQ G mL_taught d 17 [some (.ref 0), some (.ref k), some (.ref a), some (.int (nI p)), some (.int (nI q)), x5] [] h9 P := by
  have ex : ∀ (q : Nat) (h9 : AH) (f : Nat → Int32) (x5 : Option Value), q = 5 → At h9 a (.inl (0, 5, .inl f)) → (∀ z, z < q → f z = nI (pkX t (p + 4 * z))) → StN h9 k v t → Sa hb h9 a → RQ G mL_taught d 17 [some (.ref 0), some (.ref k), some (.ref a), some (.int (nI p)), some (.int (nI q)), x5] [] h9 P := by
    intro q h9 f x5 hq a1 a2 a3 a4
    subst hq
    refine tL_taught_17  (r := ?_)
    refine tL_taught_19  (r := ?_)
    refine tL_taught_20  (kf := fun c_ => by exfalso; exact c_ (by decide)) (kt := fun _ => ?_)
    exact r h9 f x5 a1 a2 a3 a4
  intro n
  induction n with
  | zero => exact fun q h9 f x5 h1_ h2_ => ex q h9 f x5 (by omega)
  | succ n ih =>
    intro q h9 f x5 h1_ h2_ a1 a2 a3 a4
    by_cases hie : q = 5
    · exact ex q h9 f x5 hie a1 a2 a3 a4
    have hq : q < 5 := by omega
    refine tL_taught_17  (r := ?_)
    refine tL_taught_19  (r := ?_)
    refine tL_taught_20  (kt := fun c_ => by exfalso; exact absurd ((nI_leI (by decide) (by omega)).mp c_) (by omega)) (kf := fun _ => ?_)
    refine tL_taught_23  (r := ?_)
    refine tL_taught_24  (r := ?_)
    refine tL_taught_26  (r := ?_)
    refine tL_taught_27 (j := q) (ha := a1) (hx := rfl) (hj := hq) (hn := (by omega)) (r := ?_)
    refine tL_taught_28  (r := ?_)
    refine tL_taught_29  (r := ?_)
    refine tL_taught_30  (r := ?_)
    refine tL_taught_32  (r := ?_)
    rw [pk_mul]
    refine tL_taught_33  (r := ?_)
    rw [nI_add]
    refine tL_taught_34  (r := ?_)
    have e0 : nI (p + 4 * q) = nI (p + 4 * q + 0) := rfl
    rw [e0]
    refine s_ta4 (hb := h9) (f0 := f) hd tl tb hq hp (fun h1 f1 p1 p2 p3 p4 p5 => ?_) 4 0 _ _ (by decide) (by decide) (At.set_eq2 a1.1) (if_pos rfl) (fun z hz => if_neg hz) (a3.set0 a1) ⟨rfl, rfl, fun z hz => if_neg hz⟩
    refine tL_taught_87  (r := ?_)
    rw [nI_add]
    refine tL_taught_90 (r := ?_)
    refine ih (q + 1) h1 f1 _ (by omega) (by omega) p1 (fun z hz => ?_) p4 ⟨p5.1.trans a4.1, p5.2.1.trans a4.2.1, fun z hz => (p5.2.2 z hz).trans (a4.2.2 z hz)⟩
    by_cases y : z = q
    · rw [y, p2, pjX_4]
    · rw [p3 z y]
      exact a2 z (by omega)
set_option maxHeartbeats 4000000 in
theorem s_taO (hd : 100 ≤ d) {bk dr la e : Nat} {js : List EJa} {ls : List ELi} {er : Int32} {B : BK} {D : DY} (hb9 : BDok B D) (ok : okB e la js ls) {t : List Nat} (et : t = bkX e la js ls) (tb : ∀ x ∈ t, x < 128) {a : Nat} {hb : AH} (ga : 216 ≤ a) (gk : 216 ≤ k) (gv : 216 ≤ v) (gh : 216 ≤ hb.1) : ∀ (n p : Nat) (h9 : AH) (f : Nat → Int32) (x4 x5 : Option Value), t.length ≤ p + n → p ≤ t.length + 20 → At h9 a (.inl (0, 5, .inl f)) → StN h9 k v t → ClR h9 0 bk dr (tpX t p, er, B, D) → (h9.1 = hb.1 ∧ h9.2.1 ≤ hb.2.1 ∧ ∀ z, 216 ≤ z → z ≠ a → z < hb.1 → h9.2.2 z = hb.2.2 z) → RQ G mL_taught d 6 [some (.ref 0), some (.ref k), some (.ref a), some (.int (nI p)), x4, x5] [] h9 (Ri fun r h1 => r = nI 0 ∧ ∃ dd, DrS la js ls dd ∧ BDok dd.1 (dyN dd) ∧ ClR h1 0 dr bk ([], -1, dd.1, dyN dd) ∧ h1.1 = hb.1 ∧ h1.2.1 ≤ hb.2.1 ∧ ∀ z, 216 ≤ z → z ≠ a → z < hb.1 → h1.2.2 z = hb.2.2 z) := by
  have tl : t.length ≤ 1200 := by rw [et]; exact (bk_len ok).2
  have tl4 : t.length ≤ 4000 := by omega
  have ex : ∀ (p : Nat) (h9 : AH) (f : Nat → Int32) (x4 x5 : Option Value), t.length ≤ p → p ≤ t.length + 20 → At h9 a (.inl (0, 5, .inl f)) → StN h9 k v t → ClR h9 0 bk dr (tpX t p, er, B, D) → (h9.1 = hb.1 ∧ h9.2.1 ≤ hb.2.1 ∧ ∀ z, 216 ≤ z → z ≠ a → z < hb.1 → h9.2.2 z = hb.2.2 z) → RQ G mL_taught d 6 [some (.ref 0), some (.ref k), some (.ref a), some (.int (nI p)), x4, x5] [] h9 (Ri fun r h1 => r = nI 0 ∧ ∃ dd, DrS la js ls dd ∧ BDok dd.1 (dyN dd) ∧ ClR h1 0 dr bk ([], -1, dd.1, dyN dd) ∧ h1.1 = hb.1 ∧ h1.2.1 ≤ hb.2.1 ∧ ∀ z, 216 ≤ z → z ≠ a → z < hb.1 → h1.2.2 z = hb.2.2 z) := by
    intro p h9 f x4 x5 hp hp2 q0 q1 q2 q3
    refine tL_taught_6  (r := ?_)
    refine tL_taught_7  (r := ?_)
    refine tL_taught_8s (hs := (Or.inr ⟨_, q1.1.choose_spec.choose_spec⟩)) (hd := (by omega)) (call := s_slen (d := d - 1) (by omega) (q1.r tl4 tb)) (k := ?_)
    rintro r_ h_ ⟨ev, e9⟩
    rw [ev, e9]
    refine tL_taught_11  (kf := fun c_ => by exfalso; exact c_ ((nI_leI (by omega) (by omega)).mpr (by omega))) (kt := fun _ => ?_)
    refine tL_taught_119  (r := ?_)
    refine tL_taught_120  (r := ?_)
    refine tL_taught_121s (hs := (Or.inr ⟨_, q1.1.choose_spec.choose_spec⟩)) (hd := (by omega)) (call := s_slen (d := d - 1) (by omega) (q1.r tl4 tb)) (k := ?_)
    rintro r_ h_ ⟨ev, e9⟩
    rw [ev, e9]
    refine tL_taught_124 (hd := (by omega)) (ha := q2.1) (call := CK.ri (k_trim_ok (d := d - 1) q2 (k := t.length) (by rw [tpX_len]; omega))) (k := ?_)
    rintro r_ w1 ⟨ev, c1, ch1⟩
    have c1 : ClR w1 0 bk dr (t, er, B, D) := by
      have e := tpX_take (T := t) (n := p) (by omega)
      rw [← e]
      exact c1
    
    refine tL_taught_127  (r := ?_)
    refine tL_taught_128  (r := ?_)
    refine tL_taught_129 (hd := (by omega)) (ha := c1.1) (call := s_teach (d := d - 1) (by omega) (by rw [et] at c1; exact c1) hb9 (by have := ch1.1; have := q3.1; omega) ok (by rw [← et]; exact tb)) (k := ?_)
    rintro r_ w2 ⟨ev2, dd, ds, bdd, c2, ch2⟩
    rw [ev2]
    refine tL_taught_132  (hP := ?_)
    refine ⟨_, rfl, rfl, dd, ds, bdd, c2, ?_, ?_, fun z z1 z2 z3 => ?_⟩
    · have a1 := ch1.1
      have a2 := ch1.2.1
      have b1 := ch2.1
      have b2 := ch2.2.1
      have f1 := q3.1
      omega
    · have a2 := ch1.2.2.1
      have b2 := ch2.2.2.1
      have f1 := q3.2.1
      omega
    · have f1 := q3.1
      have a1 := ch1.1
      exact (ch2.2.2.2.2 z z1 (by omega)).trans ((ch1.2.2.2.2 z z1 (by omega)).trans (q3.2.2 z z1 z2 z3))
  intro n
  induction n with
  | zero => exact fun p h9 f x4 x5 h1_ h2_ => ex p h9 f x4 x5 (by omega) h2_
  | succ n ih =>
    intro p h9 f x4 x5 h1_ h2_ q0 q1 q2 q3
    by_cases hie : t.length ≤ p
    · exact ex p h9 f x4 x5 hie h2_ q0 q1 q2 q3
    have q31 := q3.1
    refine tL_taught_6  (r := ?_)
    refine tL_taught_7  (r := ?_)
    refine tL_taught_8s (hs := (Or.inr ⟨_, q1.1.choose_spec.choose_spec⟩)) (hd := (by omega)) (call := s_slen (d := d - 1) (by omega) (q1.r tl4 tb)) (k := ?_)
    rintro r_ h_ ⟨ev, e9⟩
    rw [ev, e9]
    refine tL_taught_11  (kt := fun c_ => by exfalso; exact absurd ((nI_leI (by omega) (by omega)).mp c_) (by omega)) (kf := fun _ => ?_)
    refine tL_taught_14  (r := ?_)
    refine tL_taught_15  (r := ?_)
    refine s_ta5 (hb := h9) (by omega) tl tb (by omega) (fun h1 f1 x5 p1 p2 p3 p4 => ?_) 5 0 h9 f _ (by decide) (by decide) q0 (fun z hz => absurd hz (Nat.not_lt_zero z)) q1 ⟨rfl, rfl, fun _ _ => rfl⟩
    have cc : ClR h1 0 bk dr (tpX t p, er, B, D) := q2.keep (by rw [p4.1]; exact Nat.le_refl _) (fun z _ z2 => p4.2.2 z (by omega))
    refine tL_taught_93  (r := ?_)
    refine tL_taught_94  (r := ?_)
    refine tL_taught_95  (r := ?_)
    refine tL_taught_96 (j := 0) (ha := p1) (hx := rfl) (hj := (by decide)) (hn := (by decide)) (r := ?_)
    rw [p2 0 (by decide)]
    refine tL_taught_97  (r := ?_)
    refine tL_taught_98  (r := ?_)
    refine tL_taught_99 (j := 1) (ha := p1) (hx := rfl) (hj := (by decide)) (hn := (by decide)) (r := ?_)
    rw [p2 1 (by decide)]
    refine tL_taught_100  (r := ?_)
    refine tL_taught_101  (r := ?_)
    refine tL_taught_102 (j := 2) (ha := p1) (hx := rfl) (hj := (by decide)) (hn := (by decide)) (r := ?_)
    rw [p2 2 (by decide)]
    refine tL_taught_103  (r := ?_)
    refine tL_taught_104  (r := ?_)
    refine tL_taught_105 (j := 3) (ha := p1) (hx := rfl) (hj := (by decide)) (hn := (by decide)) (r := ?_)
    rw [p2 3 (by decide)]
    refine tL_taught_106  (r := ?_)
    refine tL_taught_107  (r := ?_)
    refine tL_taught_108 (j := 4) (ha := p1) (hx := rfl) (hj := (by decide)) (hn := (by decide)) (r := ?_)
    rw [p2 4 (by decide)]
    refine tL_taught_109 (hd := (by omega)) (ha := cc.1) (call := CK.ri (k_feed_ok (d := d - 1) (by omega) cc (by rw [p4.1]; omega) (by rw [tpX_len]; omega))) (k := ?_)
    rintro r_ w1 ⟨ev, c1, ch1⟩
    have ap := ap5_pk tb p
    have c1 : ClR w1 0 bk dr (tpX t (p + 20), er, B, D) := by
      rw [← ap]
      exact c1
    refine tL_taught_112  (r := ?_)
    refine tL_taught_113  (r := ?_)
    rw [nI_add]
    refine tL_taught_116 (r := ?_)
    have k6 := ch1.k6
    refine ih (p + 20) w1 f1 _ _ (by omega) (by omega) (k6.at ga p1) (p3.k6 k6 gk gv) c1 ⟨?_, ?_, fun z z1 z2 z3 => ?_⟩
    · have a1 := ch1.1
      have a2 := ch1.2.1
      have b1 := p4.1
      have f1 := q3.1
      omega
    · have a2 := ch1.2.2.1
      have b1 := p4.2.1
      have f1 := q3.2.1
      omega
    · have f1 := q3.1
      have b1 := p4.1
      exact (ch1.2.2.2.2 z z1 (by omega)).trans ((p4.2.2 z z2).trans (q3.2.2 z z1 z2 z3))
set_option maxHeartbeats 4000000 in
theorem s_taught (hd : 100 ≤ d) {bk dr la e : Nat} {js : List EJa} {ls : List ELi} {er : Int32} {B : BK} {D : DY} (hb9 : BDok B D) (ok : okB e la js ls) {t : List Nat} (et : t = bkX e la js ls) (tb : ∀ x ∈ t, x < 128) (c : ClR h 0 bk dr ([], er, B, D)) (q : StN h k v t) (gk : 216 ≤ k) (gv : 216 ≤ v) (gh : 216 ≤ h.1) : RQ G mL_taught d 0 [some (.ref 0), some (.ref k), none, none, none, none] [] h (Ri fun r h1 => r = nI 0 ∧ ∃ dd, DrS la js ls dd ∧ BDok dd.1 (dyN dd) ∧ ClR h1 0 dr bk ([], -1, dd.1, dyN dd) ∧ Ch h h1 0 216 1 5) := by
  refine tL_taught_0  (r := ?_)
  refine tL_taught_1 (hx := rfl) (hn := (by decide)) (r := ?_)
  refine tL_taught_3  (r := ?_)
  refine tL_taught_4  (r := ?_)
  refine tL_taught_5  (r := ?_)
  have nn := (Ch.rf h 0 216 0 0).new (n := 5) (c := .inl (0, 5, .inl (fun _ => 0))) (Nat.zero_le _)
  refine RQ.imp (s_taO (hb := hnew h 5 (.inl (0, 5, .inl (fun _ => 0)))) hd hb9 ok et tb gh gk gv (by show 216 ≤ h.1 + 1; omega) t.length 0 (hnew h 5 (.inl (0, 5, .inl (fun _ => 0)))) _ none none (by omega) (Nat.zero_le _) (At.new_eq h 5 _) ?_ (c.keep (Nat.le_succ _) (fun i _ i2 => if_neg (by omega))) ⟨rfl, Nat.le_refl _, fun _ _ _ _ => rfl⟩) ?_
  · obtain ⟨⟨hs, hz8, b1⟩, g, b2, b3⟩ := q
    exact ⟨⟨hs, hz8, At.new_ne b1⟩, g, At.new_ne b2, b3⟩
  · rintro o9 h9 ⟨r, e0, e1, dd, p1, p2, p3, p4, p5, p6⟩
    refine ⟨r, e0, e1, dd, p1, p2, p3, ?_⟩
    have p4 : h9.1 = h.1 + 1 := p4
    have p5 : h9.2.1 ≤ h.2.1 + 5 := p5
    exact ⟨by omega, by omega, by omega, fun i _ i2 => absurd i2 (Nat.not_lt_zero i), fun i i1 i2 => (p6 i i1 (by omega) (by show i < h.1 + 1; omega)).trans (if_neg (by omega))⟩
end E1
