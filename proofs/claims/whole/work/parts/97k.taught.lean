/-! the reference is taught -/
section RTK2
variable {G : GT} {d : Nat} {h : AH}
/-- what comes of a book that is taught -/
def tcS (s : ST) (S : PST) : ST := if pEr S = 0 then ([], -1, pBk S, dyN (pDf S)) else ([], nI (ssT (tkK s.1) (pEt S)), s.2.2.1, s.2.2.2)
theorem cpN {h0 H : AH} {b q : Nat} {la ja li ru ac no : Int32} (I : BcI h0 H b q la ja li ru ac no 18) {k n c : Nat} {f : Nat → Nat} (hk : k < 18) (hn : mbLen k = n) (x : NiX h0 (q + 1 + k) n c f) (hc : c ≤ n) : NiX H (b + 1 + k) n c f := by
  obtain ⟨g, a, cg⟩ := x
  subst hn
  obtain ⟨f', a', e⟩ := I.2.2.2.2.1 k hk g a
  exact ⟨f', a', fun i hi => (e i (Nat.lt_of_lt_of_le hi hc)).trans (cg i hi)⟩
theorem ToR.to {h1 : AH} {m : Nat} {B : BK} (q : ToR h m B) (e : h.1 ≤ h1.1) (u : Un h h1 (m + 9) (m + 28)) : ToR h1 m B := by
  obtain ⟨⟨f1, a1, c1⟩, ⟨f2, a2, c2⟩, ⟨f3, a3, c3⟩, ⟨f4, a4, c4⟩, ⟨f5, a5, c5⟩⟩ := q
  exact ⟨⟨f1, a1.keep e (u _ (by omega) (by omega)), c1⟩, ⟨f2, a2.keep e (u _ (by omega) (by omega)), c2⟩, ⟨f3, a3.keep e (u _ (by omega) (by omega)), c3⟩, ⟨f4, a4.keep e (u _ (by omega) (by omega)), c4⟩, ⟨f5, a5.keep e (u _ (by omega) (by omega)), c5⟩⟩
theorem rows18 {b : Nat} (r0 : ArI h (b + 1) 9) (r1 : ArI h (b + 2) 9) (r2 : ArI h (b + 3) 54) (r3 : ArI h (b + 4) 7) (r4 : ArI h (b + 5) 7) (r5 : ArI h (b + 6) 7) (r6 : ArI h (b + 7) 7) (r7 : ArI h (b + 8) 25) (r8 : ArI h (b + 9) 25) (r9 : ArI h (b + 10) 25) (r10 : ArI h (b + 11) 25) (r11 : ArI h (b + 12) 61) (r12 : ArI h (b + 13) 61) (r13 : ArI h (b + 14) 61) (r14 : ArI h (b + 15) 61) (r15 : ArI h (b + 16) 800) (r16 : ArI h (b + 17) 800) (r17 : ArI h (b + 18) 800) : ∀ k, k < 18 → ArI h (b + 1 + k) (mbLen k) := by
  intro k hk
  match k, hk with
  | 0, _ => exact r0
  | 1, _ => exact r1
  | 2, _ => exact r2
  | 3, _ => exact r3
  | 4, _ => exact r4
  | 5, _ => exact r5
  | 6, _ => exact r6
  | 7, _ => exact r7
  | 8, _ => exact r8
  | 9, _ => exact r9
  | 10, _ => exact r10
  | 11, _ => exact r11
  | 12, _ => exact r12
  | 13, _ => exact r13
  | 14, _ => exact r14
  | 15, _ => exact r15
  | 16, _ => exact r16
  | 17, _ => exact r17
  | k + 18, hk => exact absurd hk (by omega)
/-- the rows that stay while it is taught -/
def MoK (h : AH) (B : BK) (D : DY) : Prop := (∃ ru ac no, MBoT h (216 + 9) B ru ac no) ∧ ArI h (216 + 47) 800 ∧ (∃ f : Nat → Int32, At h (216 + 48) (.inl (0, 61, .inl f)) ∧ f 0 = dDay D ∧ (∀ j k, j < bJa B → k < bLa B → f (1 + 6 * j + k) = nI (dB D j k)) ∧ (∀ k, k < bLa B → f (49 + k) = oI (dF D k)) ∧ ∀ i, i < bLi B → f (55 + i) = nI (dL D i)) ∧ ArI h (216 + 49) 61 ∧ ArI h (216 + 50) 6 ∧ ArI h (216 + 51) 6 ∧ ArI h (216 + 52) 6
theorem MoR.K {s : ST} (c : MoR h 216 s) : MoK h s.2.2.1 s.2.2.2 := by
  obtain ⟨-, -, -, -, -, -, -, -, -, a9, -, a47, a48, a49, a50, a51, a52⟩ := c
  exact ⟨a9, a47, a48, a49, a50, a51, a52⟩
theorem MoK.keep {h1 : AH} {B : BK} {D : DY} (q : MoK h B D) (e : h.1 ≤ h1.1) (u : ∀ i, i < h.1 → ((216 + 9 ≤ i ∧ i < 216 + 28) ∨ 216 + 47 ≤ i) → h1.2.2 i = h.2.2 i) : MoK h1 B D := by
  obtain ⟨⟨ru, ac, no, a9⟩, a47, ⟨f, a48, hf⟩, a49, a50, a51, a52⟩ := q
  obtain ⟨f52, z52⟩ := id a52
  have l52 := z52.1
  exact ⟨⟨ru, ac, no, a9.keep e (fun i y1 y2 => u i (by omega) (by omega))⟩, a47.keep e (u _ (by omega) (by omega)), ⟨f, a48.keep e (u _ (by omega) (by omega)), hf⟩, a49.keep e (u _ (by omega) (by omega)), a50.keep e (u _ (by omega) (by omega)), a51.keep e (u _ (by omega) (by omega)), a52.keep e (u _ (by omega) (by omega))⟩
/-- the rows of reading -/
def MoW (h : AH) : Prop := ArI h (216 + 1) 1600 ∧ ArI h (216 + 2) 402 ∧ ArI h (216 + 3) 402 ∧ ArI h (216 + 4) 402 ∧ ArI h (216 + 5) 402 ∧ ArI h (216 + 6) 20 ∧ ArI h (216 + 7) 20 ∧ ArI h (216 + 8) 20 ∧ ∃ a b c e f g, MBoE h (216 + 28) a b c e f g
theorem MoW.sm {h1 : AH} {lo hi : Nat} (q : MoW h) (sm : Sm h h1 lo hi) (e : hi ≤ 217 ∨ (216 + 9 ≤ lo ∧ hi ≤ 216 + 28) ∨ 216 + 47 ≤ lo) : MoW h1 := by
  obtain ⟨a1, a2, a3, a4, a5, a6, a7, a8, ⟨x1, x2, x3, x4, x5, x6, b0, bf⟩⟩ := q
  exact ⟨a1.sm sm (by omega), a2.sm sm (by omega), a3.sm sm (by omega), a4.sm sm (by omega), a5.sm sm (by omega), a6.sm sm (by omega), a7.sm sm (by omega), a8.sm sm (by omega), ⟨x1, x2, x3, x4, x5, x6, sm.at b0 (by omega), fun k hk => (bf k hk).sm sm (by omega)⟩⟩
theorem MoR.mk {s : ST} (hT : s.1 = []) {th tk iw er et dp nm : Int32} (a0 : At h 216 (ModO 216 th (nI 0) s.2.1 tk iw er et dp nm)) (w : MoW h) (k : MoK h s.2.2.1 s.2.2.2) : MoR h 216 s := by
  obtain ⟨⟨f1, a1⟩, a2, a3, a4, a5, a6, a7, a8, b⟩ := w
  obtain ⟨k9, k47, k48, k49, k50, k51, k52⟩ := k
  refine ⟨⟨th, tk, iw, er, et, dp, nm, by rw [hT]; exact a0⟩, ⟨f1, a1, fun i hi => ?_⟩, a2, a3, a4, a5, a6, a7, a8, k9, b, k47, k48, k49, k50, k51, k52⟩
  rw [hT] at hi
  exact absurd hi (Nat.not_lt_zero i)

set_option maxHeartbeats 4000000 in
set_option maxRecDepth 100000 in
theorem m_teach (hd : 1100 ≤ d) {s : ST} {w te tn ae O : Nat → Nat} (c : MoR h 216 s) (t : ToR h 216 s.2.2.1) (l16 : s.1.length ≤ 1600) (hT : ∀ i, i < s.1.length → s.1.getD i 0 < 256) {S : PST} (es : S = lsP (tkK s.1) 400 (0, 0, 0, dfZ w te tn ae O)) : RQ G mX12_teach d 0 [some (.ref 216)] [] h (fun o h2 => o = .inl (some (.int (nI (pEr S)))) ∧ MoR h2 216 (tcS s S) ∧ ToR h2 216 (tcS s S).2.2.1 ∧ Ch h h2 216 269 16 100) := by
  refine s_mt0 (w := w) (te := te) (tn := tn) (ae := ae) (O := O) (by omega) c l16 hT (fun H h1 g1 no1 S' fr rl es' => ?_)
  rw [← es] at es'
  rw [es'] at rl
  obtain ⟨rr, ln, hg, g6, g8, gi6, kp⟩ := rl
  obtain ⟨⟨rx, ax, hn, h60, -⟩, ru, hr, h24, -⟩ := rr
  obtain ⟨⟨th, by_, ea, a0⟩, y0, n16, n17, n18, bno, bnp, bpk, bpe, bpt, -, -, tk, ⟨ft, fk, fn, tt, n6, n7, n8, -⟩⟩ := rx
  obtain ⟨k1, k2, ⟨v3, k3, -⟩, ⟨v4, k4_, ck4⟩, ⟨v5, k5, -⟩, tw⟩ := tk
  have a0 : At h1 216 (ModO 216 th by_ ea.1 (nI (pPo S)) (nI (if pEr S = 1 then 1 else 0)) (nI (pEr S)) (etI ea.2 (pEr S) (pEt S)) (nI 0) (nI g1.2.2.2.2.2)) := a0
  have z0 := a0.1
  have k401 := tw.2.1
  have room : 269 ≤ h.1 := c.room
  have e1h : h1.1 = h.1 := kp.1.trans fr.1
  have e2h : h1.2.1 = h.2.1 := kp.2.1.trans fr.2.1
  have uB : ∀ i, i < h.1 → ((216 + 9 ≤ i ∧ i < 216 + 28) ∨ 216 + 47 ≤ i ∨ i < 216) → h1.2.2 i = h.2.2 i := fun i y1 y2 => by
    have b1 : At H i (H.2.2 i) := ⟨by rw [fr.1]; exact y1, rfl⟩
    have b2 := (kp.2.2 i _ b1 (by omega) (by omega) (by omega) (by omega) (fun z => by
      have z1 : 216 + 28 < i := z.1
      have z2 : i < 216 + 28 + 16 := z.2
      omega)).2
    exact b2.trans (fr.2.2 i y1 (by omega) (by omega) (by omega))
  have mw : MoW h1 := ⟨k1.I, k2.I, ⟨v3, k3⟩, ⟨v4, k4_⟩, ⟨v5, k5⟩, ⟨ft, n6⟩, ⟨fk, n7⟩, ⟨fn, n8⟩, _, _, _, _, _, _, y0, rows18 ln.1.I ln.2.1.I ⟨_, ln.2.2.1.choose_spec.1⟩ ln.2.2.2.1.I ln.2.2.2.2.1.I ln.2.2.2.2.2.1.I ln.2.2.2.2.2.2.I ru.1.I ru.2.1.I ru.2.2.1.I ru.2.2.2.I ax.1.I ⟨_, ax.2.1.choose_spec.1⟩ ⟨_, ax.2.2.1.choose_spec.1⟩ ⟨_, ax.2.2.2.choose_spec.1⟩ n16.I n17.I n18.I⟩
  refine tX12_teach_75  (r := ?_)
  refine tX12_teach_76  (r := ?_)
  refine tX12_teach_77 (ha := (by first | assumption | (repeat (first | assumption | exact At.set_eq2 (by first | omega | (simp only [hset, hnew]; omega) | rfl | decide) | exact At.new_eq2 _ _ (by first | omega | (simp only [hset, hnew]; omega) | rfl | decide) | refine At.set_ne ?_ (by first | omega | (simp only [hset, hnew]; omega) | rfl | decide) | refine At.new_ne ?_)))) (hlen := rfl) (r := ?_)
  refine tX12_teach_80  (r := ?_)
  refine tX12_teach_81  (r := ?_)
  refine tX12_teach_82 (ha := (by first | assumption | (repeat (first | assumption | exact At.set_eq2 (by first | omega | (simp only [hset, hnew]; omega) | rfl | decide) | exact At.new_eq2 _ _ (by first | omega | (simp only [hset, hnew]; omega) | rfl | decide) | refine At.set_ne ?_ (by first | omega | (simp only [hset, hnew]; omega) | rfl | decide) | refine At.new_ne ?_)))) (hv := rfl) (r := ?_)
  refine tX12_teach_85  (kt := fun c_85 => ?_) (kf := fun c_85 => ?_)
  · have e0 : ¬ pEr S = 0 := fun z => c_85 (by rw [z]; rfl)
    refine tX12_teach_92  (r := ?_)
    refine tX12_teach_93 (ha := (by first | assumption | (repeat (first | assumption | exact At.set_eq2 (by first | omega | (simp only [hset, hnew]; omega) | rfl | decide) | exact At.new_eq2 _ _ (by first | omega | (simp only [hset, hnew]; omega) | rfl | decide) | refine At.set_ne ?_ (by first | omega | (simp only [hset, hnew]; omega) | rfl | decide) | refine At.new_ne ?_)))) (hv := rfl) (r := ?_)
    refine tX12_teach_96  (r := ?_)
    refine tX12_teach_97 (ha := (by first | assumption | (repeat (first | assumption | exact At.set_eq2 (by first | omega | (simp only [hset, hnew]; omega) | rfl | decide) | exact At.new_eq2 _ _ (by first | omega | (simp only [hset, hnew]; omega) | rfl | decide) | refine At.set_ne ?_ (by first | omega | (simp only [hset, hnew]; omega) | rfl | decide) | refine At.new_ne ?_)))) (hv := rfl) (r := ?_)
    refine tX12_teach_100 (ha := (by first | assumption | (repeat (first | assumption | exact At.set_eq2 (by first | omega | (simp only [hset, hnew]; omega) | rfl | decide) | exact At.new_eq2 _ _ (by first | omega | (simp only [hset, hnew]; omega) | rfl | decide) | refine At.set_ne ?_ (by first | omega | (simp only [hset, hnew]; omega) | rfl | decide) | refine At.new_ne ?_)))) (hx := (show etI ea.2 (pEr S) (pEt S) = nI (pEt S) from if_neg e0)) (hj := (by omega)) (hn := (by decide)) (r := ?_)
    rw [ck4 _ bpt, show (tkK s.1).2.2.1 (pEt S) = ssT (tkK s.1) (pEt S) from (if_pos bpt).symm]
    refine tX12_teach_101 (ha := (by first | assumption | (repeat (first | assumption | exact At.set_eq2 (by first | omega | (simp only [hset, hnew]; omega) | rfl | decide) | exact At.new_eq2 _ _ (by first | omega | (simp only [hset, hnew]; omega) | rfl | decide) | refine At.set_ne ?_ (by first | omega | (simp only [hset, hnew]; omega) | rfl | decide) | refine At.new_ne ?_)))) (hlen := rfl) (r := ?_)
    refine RQ.gen (fun H4 => At H4 216 (ModO 216 th (nI 0) (nI (ssT (tkK s.1) (pEt S))) (nI (pPo S)) (nI (if pEr S = 1 then 1 else 0)) (nI (pEr S)) (etI ea.2 (pEr S) (pEt S)) (nI 0) (nI g1.2.2.2.2.2)) ∧ Sm h1 H4 216 217) ⟨At.set_eq2 z0, ((Sm.rf h1 216 217).set (by omega) (by omega)).set (by omega) (by omega)⟩ (fun H4 hq => ?_)
    obtain ⟨x4, sm4⟩ := hq
    have u4 : ∀ i, i < h.1 → ((216 + 9 ≤ i ∧ i < 216 + 28) ∨ 216 + 47 ≤ i ∨ i < 216) → H4.2.2 i = h.2.2 i := fun i y1 y2 => by
      have z1 : H4.2.2 i = h1.2.2 i := by
        by_cases q : i < 216
        · exact sm4.2.2.1 i (Nat.zero_le _) q
        · exact sm4.2.2.2 i (by omega) (by rw [e1h]; exact y1)
      exact z1.trans (uB i y1 y2)
    have e4 : h.1 ≤ H4.1 := by rw [sm4.1, e1h]; exact Nat.le_refl _
    have w4 := mw.sm sm4 (Or.inl (by omega))
    have k4 := c.K.keep e4 (fun i y1 y2 => u4 i y1 (by omega))
    refine tX12_teach_104  (r := ?_)
    refine tX12_teach_105 (ha := (by first | assumption | (repeat (first | assumption | exact At.set_eq2 (by first | omega | (simp only [hset, hnew]; omega) | rfl | decide) | exact At.new_eq2 _ _ (by first | omega | (simp only [hset, hnew]; omega) | rfl | decide) | refine At.set_ne ?_ (by first | omega | (simp only [hset, hnew]; omega) | rfl | decide) | refine At.new_ne ?_)))) (hv := rfl) (r := ?_)
    refine tX12_teach_108  (kt := fun c_ => by exfalso; exact e0 (by simp (disch := omega) only [ci_eq0] at c_; omega)) (kf := fun _ => ?_)
    refine tX12_teach_111  (r := ?_)
    refine tX12_teach_112 (ha := (by first | assumption | (repeat (first | assumption | exact At.set_eq2 (by first | omega | (simp only [hset, hnew]; omega) | rfl | decide) | exact At.new_eq2 _ _ (by first | omega | (simp only [hset, hnew]; omega) | rfl | decide) | refine At.set_ne ?_ (by first | omega | (simp only [hset, hnew]; omega) | rfl | decide) | refine At.new_ne ?_)))) (hv := rfl) (r := ?_)
    refine tX12_teach_115  (hP := ?_)
    have eS : tcS s S = ([], nI (ssT (tkK s.1) (pEt S)), s.2.2.1, s.2.2.2) := if_neg e0
    rw [eS]
    exact ⟨rfl, MoR.mk (s := ([], nI (ssT (tkK s.1) (pEt S)), s.2.2.1, s.2.2.2)) rfl x4 w4 k4, t.to e4 (fun i y1 y2 => u4 i (by omega) (by omega)), e4, by rw [sm4.1, e1h]; exact Nat.le_add_right _ _, by rw [sm4.2.1, e2h]; exact Nat.le_add_right _ _, fun i _ y2 => u4 i (by omega) (by omega), fun i y1 y2 => u4 i y2 (by omega)⟩
  · have e0 : pEr S = 0 := by simp (disch := omega) only [ci_eq0] at c_85; omega
    refine tX12_teach_88  (r := ?_)
    refine tX12_teach_89 (r := ?_)
    refine tX12_teach_101 (ha := (by first | assumption | (repeat (first | assumption | exact At.set_eq2 (by first | omega | (simp only [hset, hnew]; omega) | rfl | decide) | exact At.new_eq2 _ _ (by first | omega | (simp only [hset, hnew]; omega) | rfl | decide) | refine At.set_ne ?_ (by first | omega | (simp only [hset, hnew]; omega) | rfl | decide) | refine At.new_ne ?_)))) (hlen := rfl) (r := ?_)
    refine RQ.gen (fun H4 => At H4 216 (ModO 216 th (nI 0) (-1) (nI (pPo S)) (nI (if pEr S = 1 then 1 else 0)) (nI (pEr S)) (etI ea.2 (pEr S) (pEt S)) (nI 0) (nI g1.2.2.2.2.2)) ∧ Sm h1 H4 216 217) ⟨At.set_eq2 z0, ((Sm.rf h1 216 217).set (by omega) (by omega)).set (by omega) (by omega)⟩ (fun H4 hq => ?_)
    obtain ⟨x4, sm4⟩ := hq
    have u4 : ∀ i, i < h.1 → ((216 + 9 ≤ i ∧ i < 216 + 28) ∨ 216 + 47 ≤ i ∨ i < 216) → H4.2.2 i = h.2.2 i := fun i y1 y2 => by
      have z1 : H4.2.2 i = h1.2.2 i := by
        by_cases q : i < 216
        · exact sm4.2.2.1 i (Nat.zero_le _) q
        · exact sm4.2.2.2 i (by omega) (by rw [e1h]; exact y1)
      exact z1.trans (uB i y1 y2)
    have e4 : h.1 ≤ H4.1 := by rw [sm4.1, e1h]; exact Nat.le_refl _
    have w4 := mw.sm sm4 (Or.inl (by omega))
    have k4 := c.K.keep e4 (fun i y1 y2 => u4 i y1 (by omega))
    refine tX12_teach_104  (r := ?_)
    refine tX12_teach_105 (ha := (by first | assumption | (repeat (first | assumption | exact At.set_eq2 (by first | omega | (simp only [hset, hnew]; omega) | rfl | decide) | exact At.new_eq2 _ _ (by first | omega | (simp only [hset, hnew]; omega) | rfl | decide) | refine At.set_ne ?_ (by first | omega | (simp only [hset, hnew]; omega) | rfl | decide) | refine At.new_ne ?_)))) (hv := rfl) (r := ?_)
    refine tX12_teach_108  (kf := fun c_ => by exfalso; exact c_ (by rw [e0]; rfl)) (kt := fun _ => ?_)
    have hg0 := hg e0
    obtain ⟨q1, q2, q3⟩ := hg0
    have okc0 : ∀ n, okc S n = n := fun n => if_pos e0
    obtain ⟨l1, l2, ⟨f3, l3, c3⟩, l4, l5, l6, l7⟩ := ln
    obtain ⟨r1, r2, r3, r4⟩ := ru
    obtain ⟨x1, ⟨f13, x2, c13⟩, ⟨f14, x3, c14⟩, ⟨f15, x5, c15⟩⟩ := ax
    rw [okc0] at l1 l2 c3 l4 l5 l6 l7 r1 r2 r3 r4 x1 c13 c14 c15 n16 n17 n18
    have s4 : ∀ {i c}, At h1 i c → 217 ≤ i → At H4 i c := fun a e => sm4.at a (Or.inr e)
    obtain ⟨⟨ru0, ac0, no0, ⟨tb0, tbf, -⟩⟩, -, ⟨fnow, a48, -⟩, -⟩ := id k4
    have y4 := s4 y0 (by omega)
    obtain ⟨-, -, -, -, -, -, -, -, ⟨_, _, _, _, _, _, -, gs4⟩⟩ := id w4
    refine tX12_teach_116  (r := ?_)
    refine tX12_teach_117 (ha := (by first | assumption | (repeat (first | assumption | exact At.set_eq2 (by first | omega | (simp only [hset, hnew]; omega) | rfl | decide) | exact At.new_eq2 _ _ (by first | omega | (simp only [hset, hnew]; omega) | rfl | decide) | refine At.set_ne ?_ (by first | omega | (simp only [hset, hnew]; omega) | rfl | decide) | refine At.new_ne ?_)))) (hv := rfl) (r := ?_)
    refine tX12_teach_120  (r := ?_)
    refine tX12_teach_121 (ha := (by first | assumption | (repeat (first | assumption | exact At.set_eq2 (by first | omega | (simp only [hset, hnew]; omega) | rfl | decide) | exact At.new_eq2 _ _ (by first | omega | (simp only [hset, hnew]; omega) | rfl | decide) | refine At.set_ne ?_ (by first | omega | (simp only [hset, hnew]; omega) | rfl | decide) | refine At.new_ne ?_)))) (hv := rfl) (r := ?_)
    refine tX12_teach_124 (hd := (by omega)) (ha := (by first | assumption | (repeat (first | assumption | exact At.set_eq2 (by first | omega | (simp only [hset, hnew]; omega) | rfl | decide) | exact At.new_eq2 _ _ (by first | omega | (simp only [hset, hnew]; omega) | rfl | decide) | refine At.set_ne ?_ (by first | omega | (simp only [hset, hnew]; omega) | rfl | decide) | refine At.new_ne ?_)))) (call := s_become (d := 1000) (by decide) (by omega) tb0 y4 tbf gs4) (k := ?_)
    intro H5 I
    obtain ⟨i1, i2, i3, -, i5, sm5⟩ := id I
    have x6 := sm5.at x4 (by omega)
    obtain ⟨fb, ab, cb⟩ := i5 2 (by decide) f3 (s4 l3 (by omega))
    obtain ⟨gl, al0, cl0⟩ := l4
    obtain ⟨fl, al, cl⟩ := i5 3 (by decide) gl (s4 al0 (by omega))
    have a485 := sm5.at a48 (by omega)
    refine tX12_teach_127  (r := ?_)
    refine tX12_teach_128 (hd := (by omega)) (ha := (by first | assumption | (repeat (first | assumption | exact At.set_eq2 (by first | omega | (simp only [hset, hnew]; omega) | rfl | decide) | exact At.new_eq2 _ _ (by first | omega | (simp only [hset, hnew]; omega) | rfl | decide) | refine At.set_ne ?_ (by first | omega | (simp only [hset, hnew]; omega) | rfl | decide) | refine At.new_ne ?_)))) (call := s_anew2 (d := 1000) (by decide) x6 i1 ab al a485) (k := ?_)
    intro H6 q6
    obtain ⟨⟨fw, a486, d0, d1, d2, d3⟩, sm6⟩ := q6
    have x7 := sm6.at x6 (by omega)
    have w6 := (w4.sm sm5 (Or.inr (Or.inl ⟨Nat.le_refl _, by omega⟩))).sm sm6 (Or.inr (Or.inr (by omega)))
    have u6 : ∀ i, i < h.1 → (216 + 49 ≤ i ∨ i < 216 ∨ i = 216 + 47) → H6.2.2 i = h.2.2 i := fun i y1 y2 => by
      have z1 : H6.2.2 i = H5.2.2 i := by
        by_cases q : i < 216 + 48
        · exact sm6.2.2.1 i (Nat.zero_le _) q
        · exact sm6.2.2.2 i (by omega) (by rw [sm5.1, sm4.1, e1h]; exact y1)
      have z2 : H5.2.2 i = H4.2.2 i := by
        by_cases q : i < 216 + 9
        · exact sm5.2.2.1 i (Nat.zero_le _) q
        · exact sm5.2.2.2 i (by omega) (by rw [sm4.1, e1h]; exact y1)
      exact z1.trans (z2.trans (u4 i y1 (by omega)))
    have e6 : h.1 ≤ H6.1 := by rw [sm6.1, sm5.1]; exact e4
    have nx : ∀ {k n cc : Nat} {f : Nat → Nat}, k < 18 → mbLen k = n → NiX h1 (216 + 28 + 1 + k) n cc f → cc ≤ n → NiX H6 (216 + 9 + 1 + k) n cc f := fun hk hn x hc => (cpN I hk hn (x.sm sm4 (Or.inr (by omega))) hc).sm sm6 (Or.inl (by omega))
    have cx : ∀ {k n : Nat} {f : Nat → Int32}, k < 18 → mbLen k = n → At h1 (216 + 28 + 1 + k) (.inl (0, n, .inl f)) → ∃ f' : Nat → Int32, At H6 (216 + 9 + 1 + k) (.inl (0, n, .inl f')) ∧ ∀ i, i < n → f' i = f i := fun {k n f} hk hn x => by
      subst hn
      obtain ⟨f', a', e'⟩ := i5 k hk f (s4 x (by omega))
      exact ⟨f', sm6.at a' (by omega), e'⟩
    obtain ⟨f13', y13, e13⟩ := cx (k := 12) (n := 61) (by decide) rfl x2
    obtain ⟨f14', y14, e14⟩ := cx (k := 13) (n := 61) (by decide) rfl x3
    obtain ⟨f15', y15, e15⟩ := cx (k := 14) (n := 61) (by decide) rfl x5
    have hr0 := hr e0
    have hn0 := hn e0
    have bn0 := bno e0
    have no8 : no1 ≤ 800 := by have := tw.2.1; omega
    have nor : NoR H6 (216 + 9) (pBk S) := by
      unfold NoR
      rw [← hr0, ← hn0, ← bn0]
      exact ⟨nx (k := 7) (by decide) rfl r1 (by omega), nx (k := 8) (by decide) rfl r2 (by omega), nx (k := 9) (by decide) rfl r3 (by omega), nx (k := 10) (by decide) rfl r4 (by omega), nx (k := 11) (by decide) rfl x1 (by omega), ⟨f13', y13, fun k hk hd_ => (e13 k (by omega)).trans (c13 k hk hd_)⟩, ⟨f14', y14, fun k hk hd_ => (e14 k (by omega)).trans (c14 k hk hd_)⟩, ⟨f15', y15, fun k hk hd_ => (e15 k (by omega)).trans (c15 k hk hd_)⟩, nx (k := 15) (by decide) rfl n16 no8, nx (k := 16) (by decide) rfl n17 no8, nx (k := 17) (by decide) rfl n18 no8⟩
    have mb : MBoT H6 (216 + 9) (pBk S) (nI g1.2.2.2.1) (nI g1.2.2.2.2.1) (nI no1) := by
      refine ⟨?_, fun k hk => (i3 k hk).sm sm6 (by omega), nor⟩
      rw [← q1, ← q2, ← q3]
      exact sm6.at i1 (by omega)
    have km : MoK H6 (pBk S) (dyN (pDf S)) := by
      refine ⟨⟨_, _, _, mb⟩, k4.2.1.keep (by rw [sm6.1, sm5.1]; exact Nat.le_refl _) ?_, ⟨fw, a486, d0, fun j k hj hk => ?_, fun k hk => ?_, fun i hi => ?_⟩, ?_, ?_, ?_, ?_⟩
      · exact (sm6.2.2.1 _ (Nat.zero_le _) (by omega)).trans (sm5.2.2.2 _ (by omega) (by omega))
      · rw [Nat.add_assoc, d1 (6 * j + k) (by omega), cb _ (by show _ < 54; omega)]
        exact c3 j k (by omega) (by omega)
      · exact d2 k (by omega)
      · rw [d3 i (by omega), cl _ (by show _ < 7; omega)]
        exact cl0 i (by omega)
      · exact (k4.2.2.2.1.sm sm5 (by omega)).sm sm6 (by omega)
      · exact (k4.2.2.2.2.1.sm sm5 (by omega)).sm sm6 (by omega)
      · exact (k4.2.2.2.2.2.1.sm sm5 (by omega)).sm sm6 (by omega)
      · exact (k4.2.2.2.2.2.2.sm sm5 (by omega)).sm sm6 (by omega)
    have tr : ToR H6 216 (pBk S) := by
      unfold ToR
      rw [← q2, ← q3]
      exact ⟨nx (k := 0) (by decide) rfl l1 (by omega), nx (k := 1) (by decide) rfl l2 (by omega), nx (k := 4) (by decide) rfl l5 (by omega), nx (k := 5) (by decide) rfl l6 (by omega), nx (k := 6) (by decide) rfl l7 (by omega)⟩
    refine tX12_teach_131  (r := ?_)
    refine tX12_teach_132  (hP := ?_)
    have eS : tcS s S = ([], -1, pBk S, dyN (pDf S)) := if_pos e0
    rw [eS, e0]
    exact ⟨rfl, MoR.mk (s := ([], -1, pBk S, dyN (pDf S))) rfl x7 w6 km, tr, e6, by rw [sm6.1, sm5.1, sm4.1, e1h]; exact Nat.le_add_right _ _, by rw [sm6.2.1, sm5.2.1, sm4.2.1, e2h]; exact Nat.le_add_right _ _, fun i _ y2 => u6 i (by omega) (by omega), fun i y1 y2 => u6 i y2 (by omega)⟩

end RTK2
