/-! acts and days by hand -/
/-- what is not of the cupboard's own changing cells -/
def NMt (c : AC) : Prop := (∃ k v, c = .inr (k, v) ∧ k ≠ 10 ∧ k ≠ 12 ∧ k ≠ 13) ∨ ∃ k v, c = .inl (k, v) ∧ k ≠ 0
def Fy (h h1 : AH) (tn ck sk : Nat) : Prop := h.1 ≤ h1.1 ∧ h1.1 ≤ h.1 + ck ∧ h1.2.1 ≤ h.2.1 + sk ∧ ∀ j, j < h.1 → (j < 216 ∨ j = tn ∨ NMt (h.2.2 j)) → h1.2.2 j = h.2.2 j
theorem Fy.rf (h : AH) (tn ck sk : Nat) : Fy h h tn ck sk := ⟨Nat.le_refl _, Nat.le_add_right _ _, Nat.le_add_right _ _, fun _ _ _ => rfl⟩
theorem Fy.trans {h h1 h2 : AH} {tn ck sk ck2 sk2 : Nat} (a : Fy h h1 tn ck sk) (b : Fy h1 h2 tn ck2 sk2) : Fy h h2 tn (ck + ck2) (sk + sk2) := by
  obtain ⟨a1, a2, a3, a4⟩ := a
  obtain ⟨b1, b2, b3, b4⟩ := b
  refine ⟨by omega, by omega, by omega, fun j hj hc => ?_⟩
  have e := a4 j hj hc
  exact (b4 j (by omega) (by rw [e]; exact hc)).trans e
theorem Fy.sub {h h1 : AH} {tn ck sk ck2 sk2 : Nat} (a : Fy h h1 tn ck sk) (e1 : ck ≤ ck2) (e2 : sk ≤ sk2) : Fy h h1 tn ck2 sk2 := ⟨a.1, by have := a.2.1; omega, by have := a.2.2.1; omega, a.2.2.2⟩
theorem Ch.fy {h h1 : AH} {ck sk : Nat} (x : Ch h h1 0 0 ck sk) (tn : Nat) : Fy h h1 tn ck sk := ⟨x.1, x.2.1, x.2.2.1, fun j hj _ => x.2.2.2.2 j (Nat.zero_le _) hj⟩
theorem Fy.set {h h1 : AH} {tn ck sk i : Nat} {o c : AC} (a : Fy h h1 tn ck sk) (x : At h1 i o) (e1 : 216 ≤ i) (e2 : i ≠ tn) (n : ¬ NMt o) : Fy h (hset h1 i c) tn ck sk := by
  refine ⟨a.1, a.2.1, a.2.2.1, fun j hj hc => ?_⟩
  show (if j = i then c else h1.2.2 j) = _
  by_cases z : j = i
  · subst z
    exfalso
    rcases hc with hc | hc | hc
    · omega
    · exact e2 hc
    · have e := a.2.2.2 j hj (Or.inr (Or.inr hc))
      exact n (by rw [← x.2, e]; exact hc)
  · rw [if_neg z]
    exact a.2.2.2 j hj hc
theorem nmt0 {v : vp_A} : ¬ NMt (.inl (0, v)) := by
  rintro (⟨k, w, e, -⟩ | ⟨k, w, e, n⟩)
  · cases e
  · injection e with e
    injection e with e
    exact n e.symm
theorem nmtr {k : Nat} {v : List Value} (h : k = 10 ∨ k = 12 ∨ k = 13) : ¬ NMt (.inr (k, v)) := by
  rintro (⟨q, w, e, n1, n2, n3⟩ | ⟨q, w, e, n⟩)
  · injection e with e
    injection e with e
    omega
  · cases e
theorem imm_nmt {c : AC} (h : Imm c) : NMt c := by
  rcases h with ⟨v, e⟩ | ⟨v, e⟩ | ⟨v, e⟩ | ⟨v, e⟩ | ⟨v, e⟩
  · exact Or.inl ⟨_, _, e, by decide, by decide, by decide⟩
  · exact Or.inl ⟨_, _, e, by decide, by decide, by decide⟩
  · exact Or.inl ⟨_, _, e, by decide, by decide, by decide⟩
  · exact Or.inr ⟨_, _, e, by decide⟩
  · exact Or.inr ⟨_, _, e, by decide⟩
theorem Fy.i {h h1 : AH} {tn ck sk : Nat} (a : Fy h h1 tn ck sk) : KpI h h1 := fun j c _ x m => x.keep a.1 (a.2.2.2 j x.1 (Or.inr (Or.inr (by rw [x.2]; exact imm_nmt m))))
theorem le_su {f : Nat → Nat} : ∀ {n k : Nat}, k < n → f k ≤ su f n
  | n + 1, k, h => by
    show f k ≤ su f n + f n
    by_cases z : k = n
    · rw [z]; omega
    · have := le_su (f := f) (n := n) (k := k) (by omega)
      omega
section HP
variable {G : GT} {d : Nat} {h : AH} {c i : Nat} {B : BK} {D : DY} {Rs : Nat → List ERu} {tn fo ja li : Nat} {xj yl rl : Nat → Nat} {jf lf : Nat → Option Nat}
theorem BDok.bl (hb : BDok B D) {j : Nat} (hj : j < bJa B) : ∀ k, k < bLa B → dB D j k ≤ 1200 := fun k hk => Nat.le_trans (le_su (by have := hb.1; omega)) (hb.bs9 hj)
theorem RuR.set0 {z i : Nat} {r : ERu} {o c : AC} (q : RuR h z r) (x : At h i o) (n : ¬ NMt o) : RuR (hset h i c) z r := q.kp (fun j c1 _ y m => At.set_ne y (y.ne x (fun e => n (e ▸ imm_nmt m))))
theorem LhR.set0 {y ru jar lab i : Nat} {rs : List ERu} {o c : AC} (q : LhR h y ru jar lab rs) (x : At h i o) (n : ¬ NMt o) (ny : y ≠ i) : LhR (hset h i c) y ru jar lab rs := by
  obtain ⟨q1, q2, q3, f, q4, q5⟩ := q
  exact ⟨q1, q2, At.set_ne q3 ny, f, At.set_ne q4 (q4.ne x (fun e => n (e ▸ Or.inr ⟨_, _, rfl, by decide⟩))), fun k hk => (q5 k hk).imp (fun z w => ⟨w.1, w.2.set0 x n⟩)⟩
theorem JhR.set0 {x be n se wy i : Nat} {b : Nat → Nat} {c : AC} (q : JhR h x be n se wy b) (n1 : x ≠ i) (n2 : be ≠ i) : JhR (hset h i c) x be n se wy b := by
  obtain ⟨q1, q2, q3, bf, q4, q5⟩ := q
  exact ⟨q1, q2, At.set_ne q3 n1, bf, At.set_ne q4 n2, q5⟩
/-- beans of a jar change -/
theorem HaX.put_b (ha : HaX h c B D Rs tn fo ja li xj yl rl jf lf) {j : Nat} (hj : j < bJa B) : ∃ be, JhR h (xj j) be (bLa B) (bSe B j) (bWy B j) (dB D j) ∧ be ≠ tn ∧ ∀ (b2 : Nat → Nat) (bf2 : Nat → Int32), (∀ k, k < bLa B → bf2 k = nI (b2 k)) → HaX (hset h be (.inl (0, bLa B, .inl bf2))) c B (jrB D j b2) Rs tn fo ja li xj yl rl jf lf := by
  obtain ⟨bj, ff, ⟨a1, a2, a3, a4⟩, a5, ⟨a6, a7⟩, ⟨a8, a9⟩, ⟨a10, a11⟩, a12, a13, a14, a15, a16, a17, a18⟩ := ha
  have jh := a12 j hj
  refine ⟨bj j, jh, a18 j hj, fun b2 bf2 hb2 => ?_⟩
  obtain ⟨j1, j2, j3, bf, j4, j5⟩ := id jh
  refine ⟨bj, ff, ⟨a1, a2, a3, a4⟩, At.set_ne a5 (a5.ne j4 (by simp)), ⟨At.set_ne a6 (Ne.symm (a14 j hj)), a7⟩, ⟨At.set_ne a8 (a8.ne j4 (by simp)), a9⟩, ⟨At.set_ne a10 (a10.ne j4 (by simp)), a11⟩, fun q hq => ?_, fun q hq => (a13 q hq).set0 j4 nmt0 ((a13 q hq).2.2.1.ne j4 (by simp)), a14, a15, a16, a17, a18⟩
  by_cases z : q = j
  · subst z
    refine ⟨j1, j2, At.set_ne j3 (j3.ne j4 (by simp)), bf2, At.set_eq2 j4.1, fun k hk => ?_⟩
    show bf2 k = nI ((if q = q then b2 else dB D q) k)
    rw [if_pos rfl]
    exact hb2 k hk
  · have q0 := (a12 q hq).set0 (c := .inl (0, bLa B, .inl bf2)) ((a12 q hq).2.2.1.ne j4 (by simp)) (a15 q j hq hj z).2
    have e : dB (jrB D j b2) q = dB D q := if_neg z
    rw [e]
    exact q0
/-- a jar gets another row -/
theorem HaX.put_x {h8 : AH} {ck sk : Nat} (ha : HaX h c B D Rs tn fo ja li xj yl rl jf lf) (ht : tn < h.1) {j : Nat} (hj : j < bJa B) (ch : Ch h h8 0 0 ck sk) {mf : Nat → Int32} {b2 : Nat → Nat} (h216 : 216 ≤ h.1) (am : At h8 h.1 (.inl (0, bLa B, .inl mf))) (hm : ∀ k, k < bLa B → mf k = nI (b2 k)) : HaX (hset h8 (xj j) (.inr (12, [.int (nI (bSe B j)), .int (nI (bWy B j)), .ref h.1]))) c B (jrB D j b2) Rs tn fo ja li xj yl rl jf lf := by
  have lt : ∀ {q c0}, At h q c0 → q ≠ h.1 := fun x e => by have := x.1; omega
  obtain ⟨bj, ff, ⟨a1, a2, a3, a4⟩, a5, ⟨a6, a7⟩, ⟨a8, a9⟩, ⟨a10, a11⟩, a12, a13, a14, a15, a16, a17, a18⟩ := id ha
  have a6n := lt a6
  have b9 : ∀ q, q < bJa B → bj q ≠ h.1 := fun q hq => by
    obtain ⟨_, _, _, bf, q4, _⟩ := a12 q hq
    exact lt q4
  obtain ⟨j1, j2, j3, bf, j4, j5⟩ := (a12 j hj).ch ch
  have nt : h.1 ≠ tn := by omega
  refine ⟨fun q => if q = j then h.1 else bj q, ff, ⟨a1, a2, a3, a4⟩, At.set_ne (Ch0.at ch a5) ((Ch0.at ch a5).ne j3 (by simp)), ⟨At.set_ne (Ch0.at ch a6) ((Ch0.at ch a6).ne j3 (by simp)), a7⟩, ⟨At.set_ne (Ch0.at ch a8) ((Ch0.at ch a8).ne j3 (by simp)), a9⟩, ⟨At.set_ne (Ch0.at ch a10) ((Ch0.at ch a10).ne j3 (by simp)), a11⟩, fun q hq => ?_, fun q hq => ((a13 q hq).k6 (Ch.k60 ch)).set0 j3 (nmtr (Or.inr (Or.inl rfl))) (((a13 q hq).k6 (Ch.k60 ch)).2.2.1.ne j3 (by simp)), fun q hq => ?_, fun p q hp hq n => ⟨(a15 p q hp hq n).1, ?_⟩, a16, a17, fun q hq => ?_⟩
  · by_cases z : q = j
    · subst z
      show JhR _ _ (if q = q then h.1 else bj q) _ _ _ ((if q = q then b2 else dB D q))
      rw [if_pos rfl, if_pos rfl]
      exact ⟨j1, h216, At.set_eq2 j3.1, mf, At.set_ne am (am.ne j3 (by simp)), hm⟩
    · show JhR _ _ (if q = j then h.1 else bj q) _ _ _ ((if q = j then b2 else dB D q))
      rw [if_neg z, if_neg z]
      have q0 := (a12 q hq).ch ch
      obtain ⟨_, _, _, bf0, q4, _⟩ := id q0
      exact q0.set0 (a15 q j hq hj z).1 (q4.ne j3 (by simp))
  · show (if q = j then h.1 else bj q) ≠ fo
    split
    · exact Ne.symm a6n
    · exact a14 q hq
  · show (if p = j then h.1 else bj p) ≠ (if q = j then h.1 else bj q)
    by_cases z1 : p = j
    · rw [if_pos z1, if_neg (fun z2 => n (z1.trans z2.symm))]
      exact Ne.symm (b9 q hq)
    · rw [if_neg z1]
      by_cases z2 : q = j
      · rw [if_pos z2]
        exact b9 p hp
      · rw [if_neg z2]
        exact (a15 p q hp hq n).2
  · show (if q = j then h.1 else bj q) ≠ tn
    split
    · exact nt
    · exact a18 q hq
/-- a lid hops -/
theorem HaX.put_l (ha : HaX h c B D Rs tn fo ja li xj yl rl jf lf) (hi : i < bLi B) (n : Nat) : HaX (hset h (yl i) (.inr (13, [.int (nI n), .int (nI (bLl B i)), .ref (rl i)]))) c B (hoD D i n) Rs tn fo ja li xj yl rl jf lf := by
  obtain ⟨bj, ff, ⟨a1, a2, a3, a4⟩, a5, ⟨a6, a7⟩, ⟨a8, a9⟩, ⟨a10, a11⟩, a12, a13, a14, a15, a16, a17, a18⟩ := ha
  have l3 := (a13 i hi).2.2.1
  refine ⟨bj, ff, ⟨a1, a2, a3, a4⟩, At.set_ne a5 (a5.ne l3 (by simp)), ⟨At.set_ne a6 (a6.ne l3 (by simp)), a7⟩, ⟨At.set_ne a8 (a8.ne l3 (by simp)), a9⟩, ⟨At.set_ne a10 (a10.ne l3 (by simp)), a11⟩, fun q hq => ?_, fun q hq => ?_, a14, a15, a16, a17, a18⟩
  · have q0 := a12 q hq
    obtain ⟨_, _, q3, bf0, q4, _⟩ := id q0
    exact q0.set0 (q3.ne l3 (by simp)) (q4.ne l3 (by simp))
  · by_cases z : q = i
    · subst z
      obtain ⟨l1, l2, -, f, l4, l5⟩ := a13 q hq
      show LhR _ _ _ (if q = q then n else dL D q) _ _
      rw [if_pos rfl]
      exact ⟨l1, l2, At.set_eq2 l3.1, f, At.set_ne l4 (l4.ne l3 (by simp)), fun k hk => (l5 k hk).imp (fun z w => ⟨w.1, w.2.set0 l3 (nmtr (Or.inr (Or.inr rfl)))⟩)⟩
    · show LhR _ _ _ (if q = i then n else dL D q) _ _
      rw [if_neg z]
      exact (a13 q hq).set0 l3 (nmtr (Or.inr (Or.inr rfl))) (a16 q i hq hi z)
/-- a label follows another one, or none -/
theorem HaX.put_f (ha : HaX h c B D Rs tn fo ja li xj yl rl jf lf) : ∃ ff : Nat → Int32, At h fo (.inl (0, bLa B, .inl ff)) ∧ ∀ (l : Nat) (t : Option Nat), HaX (hset h fo (.inl (0, bLa B, .inl (upd ff l (oI t))))) c B (fwD D l t) Rs tn fo ja li xj yl rl jf lf := by
  obtain ⟨bj, ff, ⟨a1, a2, a3, a4⟩, a5, ⟨a6, a7⟩, ⟨a8, a9⟩, ⟨a10, a11⟩, a12, a13, a14, a15, a16, a17, a18⟩ := ha
  refine ⟨ff, a6, fun l t => ⟨bj, upd ff l (oI t), ⟨a1, a2, a3, a4⟩, At.set_ne a5 (a5.ne a6 (by simp)), ⟨At.set_eq2 a6.1, fun k hk => ?_⟩, ⟨At.set_ne a8 (a8.ne a6 (by simp)), a9⟩, ⟨At.set_ne a10 (a10.ne a6 (by simp)), a11⟩, fun q hq => ?_, fun q hq => (a13 q hq).set0 a6 nmt0 ((a13 q hq).2.2.1.ne a6 (by simp)), a14, a15, a16, a17, a18⟩⟩
  · show (if k = l then oI t else ff k) = oI (if k = l then t else dF D k)
    by_cases z : k = l
    · rw [if_pos z, if_pos z]
    · rw [if_neg z, if_neg z, a7 k hk]
  · exact (a12 q hq).set0 ((a12 q hq).2.2.1.ne a6 (by simp)) (a14 q hq)
/-- a day more -/
theorem HaX.day (ha : HaX h c B D Rs tn fo ja li xj yl rl jf lf) : At h c (.inr (10, [.ref fo, .ref ja, .ref li, .int (dDay D)])) ∧ 216 ≤ c ∧ HaX (hset h c (.inr (10, [.ref fo, .ref ja, .ref li, .int (dDay D + nI 1)]))) c B (dyD D) Rs tn fo ja li xj yl rl jf lf := by
  obtain ⟨bj, ff, ⟨a1, a2, a3, a4⟩, a5, ⟨a6, a7⟩, ⟨a8, a9⟩, ⟨a10, a11⟩, a12, a13, a14, a15, a16, a17, a18⟩ := ha
  refine ⟨a5, a1, bj, ff, ⟨a1, a2, a3, a4⟩, At.set_eq2 a5.1, ⟨At.set_ne a6 (a6.ne a5 (by simp)), a7⟩, ⟨At.set_ne a8 (a8.ne a5 (by simp)), a9⟩, ⟨At.set_ne a10 (a10.ne a5 (by simp)), a11⟩, fun q hq => ?_, fun q hq => (a13 q hq).set0 a5 (nmtr (Or.inl rfl)) ((a13 q hq).2.2.1.ne a5 (by simp)), a14, a15, a16, a17, a18⟩
  have q0 := a12 q hq
  obtain ⟨_, _, q3, bf0, q4, _⟩ := id q0
  exact q0.set0 (q3.ne a5 (by simp)) (q4.ne a5 (by simp))
theorem thr9_thB (hb : BDok B D) {l k : Nat} (hk : k < bLa B) : (thr9 (dF D) l 6 k = true) ↔ thB (dF D) l k = true := by
  rw [thr9_iff 6 k (hb.hR k hk), thB_iff (hb.end6 (by have := hb.1; omega))]

set_option maxHeartbeats 4000000 in
theorem s_hact (hd : 12 ≤ d) (hb : BDok B D) (ha : HaX h c B D Rs tn fo ja li xj yl rl jf lf) (hi : i < bLi B) (ht : tn < h.1) (h216 : 216 ≤ h.1) (nly : yl i ≠ tn) (nxy : ∀ j, j < bJa B → xj j ≠ tn) {a : Nat} {e : EAc} (ok : okAc (bLa B) (bJa B) e) (q : AcR h a e) : RQ G mX11_carryOut d 0 [some (.ref a), some (.ref c), some (.ref (yl i))] [] h (Rv fun h1 => HaX h1 c B (doA B i D e) Rs tn fo ja li xj yl rl jf lf ∧ Fy h h1 tn 33 220) := by
  have la6 := hb.1
  have ja8 := hb.2.1
  obtain ⟨ldl, dj⟩ := hb.dj hi
  obtain ⟨bj, ff, ⟨a1, a2, a3, a4⟩, a5, ⟨a6, a7⟩, ⟨a8, a9⟩, ⟨a10, a11⟩, a12, a13, a14, a15, a16, a17, a18⟩ := id ha
  obtain ⟨l1, l2, l3, rf, l4, l5⟩ := a13 i hi
  obtain ⟨af0, putf⟩ := ha.put_f
  obtain ⟨af, putf⟩ := putf
  obtain ⟨so, w, v⟩ := e
  obtain ⟨o1, o2, o3, okv⟩ := ok
  have o1 : so ≤ 4 := o1
  have o2 : so = 1 → w < bJa B := o2
  have o3 : so ≠ 1 → w < bLa B := o3
  have okv : okV (bLa B) v := okv
  obtain ⟨q1, x, aa, hv⟩ := q
  have aa : At h a (.inr (9, [.int (nI so), .int (nI w), va_rf x])) := aa
  have hv : so = 0 → ∃ z, x = some z ∧ VaR h z v := hv
  rcases (by omega : so = 0 ∨ so = 1 ∨ so = 2 ∨ so = 3 ∨ so = 4) with rfl | rfl | rfl | rfl | rfl
  · obtain ⟨z, rfl, vz⟩ := hv rfl
    have hwl : w < bLa B := o3 (by decide)
    refine tX11_carryOut_0  (r := ?_)
    refine tX11_carryOut_1 (ha := aa) (hv := rfl) (r := ?_)
    refine tX11_carryOut_4  (kt := fun c_ => by exfalso; first | exact absurd c_ (by decide) | exact c_ rfl) (kf := fun _ => ?_)
    refine tX11_carryOut_7  (r := ?_)
    refine tX11_carryOut_8 (ha := a5) (hv := rfl) (r := ?_)
    refine tX11_carryOut_11  (r := ?_)
    refine tX11_carryOut_12 (ha := l3) (hv := rfl) (r := ?_)
    refine tX11_carryOut_15 (t := 5) (j := dL D i) (ha := a8) (ht := rfl) (hx := rfl) (hj := dj) (hn := (by omega)) (hf := (a9 _ dj)) (r := ?_)
    refine tX11_carryOut_16  (r := ?_)
    refine tX11_carryOut_17 (ha := aa) (hv := rfl) (r := ?_)
    refine tX11_carryOut_20  (r := ?_)
    refine tX11_carryOut_21 (ha := l3) (hv := rfl) (r := ?_)
    refine tX11_carryOut_24  (r := ?_)
    refine tX11_carryOut_25 (ha := aa) (hv := rfl) (r := ?_)
    refine tX11_carryOut_28  (r := ?_)
    refine tX11_carryOut_29  (r := ?_)
    refine tX11_carryOut_30 (hd := (by omega)) (ha := vz.at.choose_spec) (call := s_nvVa (d := d - 1) (by omega) hb ha hi okv vz) (k := ?_)
    rintro v1 w1 ⟨ev1, ch1⟩
    have ha1 := ha.k6 (Ch.k60 ch1)
    obtain ⟨be, jh1, nbt, put⟩ := ha1.put_b dj
    refine tX11_carryOut_33 (hd := (by omega)) (call := s_hpour (d := d - 1) la6 jh1 (hb.bl dj) hwl ldl) (k := ?_)
    rintro v2 w2 ⟨ev2, bf2, hb2, e9⟩
    rw [ev1] at hb2 ev2
    refine tX11_carryOut_36  (r := ?_)
    refine tX11_carryOut_37 (r := ?_)
    refine tX11_carryOut_131  (hP := ?_)
    obtain ⟨z1, z2, z3, z4, z5, z6⟩ := jh1
    rw [e9]
    exact ⟨rfl, put _ _ hb2, (((Ch.fy ch1 tn).set z5 z2 nbt nmt0)).sub (by decide) (by decide)⟩
  · skip
    refine tX11_carryOut_0  (r := ?_)
    refine tX11_carryOut_1 (ha := aa) (hv := rfl) (r := ?_)
    refine tX11_carryOut_4  (kf := fun c_ => by exfalso; first | exact absurd c_ (by decide) | exact c_ rfl) (kt := fun _ => ?_)
    refine tX11_carryOut_40  (r := ?_)
    refine tX11_carryOut_41 (ha := aa) (hv := rfl) (r := ?_)
    refine tX11_carryOut_44  (r := ?_)
    refine tX11_carryOut_45  (kt := fun c_ => by exfalso; first | exact absurd c_ (by decide) | exact c_ rfl) (kf := fun _ => ?_)
    refine tX11_carryOut_48  (r := ?_)
    refine tX11_carryOut_49  (r := ?_)
    refine tX11_carryOut_50 (ha := aa) (hv := rfl) (r := ?_)
    refine tX11_carryOut_53 (ha := l3) (hlen := rfl) (r := ?_)
    refine tX11_carryOut_56 (r := ?_)
    refine tX11_carryOut_131  (hP := ?_)
    exact ⟨rfl, HaX.put_l ha hi w, ((Fy.rf h tn 33 220).set l3 l1 nly (nmtr (Or.inr (Or.inr rfl))))⟩
  · skip
    refine tX11_carryOut_0  (r := ?_)
    refine tX11_carryOut_1 (ha := aa) (hv := rfl) (r := ?_)
    refine tX11_carryOut_4  (kf := fun c_ => by exfalso; first | exact absurd c_ (by decide) | exact c_ rfl) (kt := fun _ => ?_)
    refine tX11_carryOut_40  (r := ?_)
    refine tX11_carryOut_41 (ha := aa) (hv := rfl) (r := ?_)
    refine tX11_carryOut_44  (r := ?_)
    refine tX11_carryOut_45  (kf := fun c_ => by exfalso; first | exact absurd c_ (by decide) | exact c_ rfl) (kt := fun _ => ?_)
    refine tX11_carryOut_59  (r := ?_)
    refine tX11_carryOut_60 (ha := aa) (hv := rfl) (r := ?_)
    refine tX11_carryOut_63  (r := ?_)
    refine tX11_carryOut_64  (kt := fun c_ => by exfalso; first | exact absurd c_ (by decide) | exact c_ rfl) (kf := fun _ => ?_)
    refine tX11_carryOut_67  (r := ?_)
    refine tX11_carryOut_68 (ha := a5) (hv := rfl) (r := ?_)
    refine tX11_carryOut_71  (r := ?_)
    refine tX11_carryOut_72 (ha := l3) (hv := rfl) (r := ?_)
    refine tX11_carryOut_75 (t := 5) (j := dL D i) (ha := a8) (ht := rfl) (hx := rfl) (hj := dj) (hn := (by omega)) (hf := (a9 _ dj)) (r := ?_)
    refine tX11_carryOut_76 (hd := (by omega)) (call := s_hshake (d := d - 1) la6 (by omega) (a12 _ dj) (hb.bl dj)) (k := ?_)
    rintro w2 ⟨mf, h8, ch, am, hm, e9⟩
    rw [e9]
    refine tX11_carryOut_79 (r := ?_)
    refine tX11_carryOut_131  (hP := ?_)
    obtain ⟨z1, z2, z3, z4⟩ := (a12 _ dj).ch ch
    exact ⟨rfl, HaX.put_x ha ht dj ch h216 am hm, ((Ch.fy ch tn).set z3 z1 (nxy _ dj) (nmtr (Or.inr (Or.inl rfl)))).sub (by decide) (by omega)⟩
  · have hwl : w < bLa B := o3 (by decide)
    refine tX11_carryOut_0  (r := ?_)
    refine tX11_carryOut_1 (ha := aa) (hv := rfl) (r := ?_)
    refine tX11_carryOut_4  (kf := fun c_ => by exfalso; first | exact absurd c_ (by decide) | exact c_ rfl) (kt := fun _ => ?_)
    refine tX11_carryOut_40  (r := ?_)
    refine tX11_carryOut_41 (ha := aa) (hv := rfl) (r := ?_)
    refine tX11_carryOut_44  (r := ?_)
    refine tX11_carryOut_45  (kf := fun c_ => by exfalso; first | exact absurd c_ (by decide) | exact c_ rfl) (kt := fun _ => ?_)
    refine tX11_carryOut_59  (r := ?_)
    refine tX11_carryOut_60 (ha := aa) (hv := rfl) (r := ?_)
    refine tX11_carryOut_63  (r := ?_)
    refine tX11_carryOut_64  (kf := fun c_ => by exfalso; first | exact absurd c_ (by decide) | exact c_ rfl) (kt := fun _ => ?_)
    refine tX11_carryOut_82  (r := ?_)
    refine tX11_carryOut_83 (ha := aa) (hv := rfl) (r := ?_)
    refine tX11_carryOut_86  (r := ?_)
    refine tX11_carryOut_87  (kf := fun c_ => by exfalso; first | exact absurd c_ (by decide) | exact c_ rfl) (kt := fun _ => ?_)
    refine tX11_carryOut_103  (r := ?_)
    refine tX11_carryOut_104  (r := ?_)
    refine tX11_carryOut_105 (ha := aa) (hv := rfl) (r := ?_)
    refine tX11_carryOut_108  (r := ?_)
    refine tX11_carryOut_109 (ha := l3) (hv := rfl) (r := ?_)
    refine tX11_carryOut_112 (hd := (by omega)) (ha := a5) (call := s_hund la6 ha.to.fo hb.hF ldl 6 (d - 1) w (by omega) hwl (hb.hR w hwl)) (k := ?_)
    rintro v1 h_ ⟨ev, e9⟩
    rw [ev, e9]
    refine tX11_carryOut_115  (kt := fun c_115 => ?_) (kf := fun c_115 => ?_)
    · have t0 : thB (dF D) (bLl B i) w = true := (thr9_thB hb hwl).mp (Classical.byContradiction (fun y => c_115 (by rw [if_neg y]; rfl)))
      refine tX11_carryOut_131  (hP := ?_)
      refine ⟨rfl, ?_, Fy.rf h tn 33 220⟩
      show HaX h c B (if thB (dF D) (bLl B i) w = true then D else fwD D (bLl B i) (some w)) Rs tn fo ja li xj yl rl jf lf
      rw [if_pos t0]
      exact ha
    · have t0 : ¬ thB (dF D) (bLl B i) w = true := fun y => by
        rw [if_pos ((thr9_thB hb hwl).mpr y)] at c_115
        exact absurd c_115 (by decide)
      refine tX11_carryOut_118  (r := ?_)
      refine tX11_carryOut_119 (ha := a5) (hv := rfl) (r := ?_)
      refine tX11_carryOut_122  (r := ?_)
      refine tX11_carryOut_123 (ha := l3) (hv := rfl) (r := ?_)
      refine tX11_carryOut_126  (r := ?_)
      refine tX11_carryOut_127 (ha := aa) (hv := rfl) (r := ?_)
      refine tX11_carryOut_130 (j := bLl B i) (ha := af) (hx := rfl) (hj := ldl) (hn := (by omega)) (r := ?_)
      refine tX11_carryOut_131  (hP := ?_)
      refine ⟨rfl, ?_, ((Fy.rf h tn 33 220).set af a2 a17 nmt0)⟩
      show HaX _ c B (if thB (dF D) (bLl B i) w = true then D else fwD D (bLl B i) (some w)) Rs tn fo ja li xj yl rl jf lf
      rw [if_neg t0]
      exact putf (bLl B i) (some w)
  · skip
    refine tX11_carryOut_0  (r := ?_)
    refine tX11_carryOut_1 (ha := aa) (hv := rfl) (r := ?_)
    refine tX11_carryOut_4  (kf := fun c_ => by exfalso; first | exact absurd c_ (by decide) | exact c_ rfl) (kt := fun _ => ?_)
    refine tX11_carryOut_40  (r := ?_)
    refine tX11_carryOut_41 (ha := aa) (hv := rfl) (r := ?_)
    refine tX11_carryOut_44  (r := ?_)
    refine tX11_carryOut_45  (kf := fun c_ => by exfalso; first | exact absurd c_ (by decide) | exact c_ rfl) (kt := fun _ => ?_)
    refine tX11_carryOut_59  (r := ?_)
    refine tX11_carryOut_60 (ha := aa) (hv := rfl) (r := ?_)
    refine tX11_carryOut_63  (r := ?_)
    refine tX11_carryOut_64  (kf := fun c_ => by exfalso; first | exact absurd c_ (by decide) | exact c_ rfl) (kt := fun _ => ?_)
    refine tX11_carryOut_82  (r := ?_)
    refine tX11_carryOut_83 (ha := aa) (hv := rfl) (r := ?_)
    refine tX11_carryOut_86  (r := ?_)
    refine tX11_carryOut_87  (kt := fun c_ => by exfalso; first | exact absurd c_ (by decide) | exact c_ rfl) (kf := fun _ => ?_)
    refine tX11_carryOut_90  (r := ?_)
    refine tX11_carryOut_91 (ha := a5) (hv := rfl) (r := ?_)
    refine tX11_carryOut_94  (r := ?_)
    refine tX11_carryOut_95 (ha := l3) (hv := rfl) (r := ?_)
    refine tX11_carryOut_98  (r := ?_)
    refine tX11_carryOut_99 (j := bLl B i) (ha := af) (hx := rfl) (hj := ldl) (hn := (by omega)) (r := ?_)
    refine tX11_carryOut_100 (r := ?_)
    refine tX11_carryOut_131  (hP := ?_)
    exact ⟨rfl, putf (bLl B i) none, ((Fy.rf h tn 33 220).set af a2 a17 nmt0)⟩
end HP
