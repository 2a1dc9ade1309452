/-! the reference reads what a jar holds -/
theorem be_df {l v : Nat} {d : DRF} : (beD l v d).1 = d.1 ∧ dfL (beD l v d) = dfL d ∧ dfJ (beD l v d) = dfJ d ∧ dfI (beD l v d) = dfI d ∧ dfO (beD l v d) = dfO d := by
  unfold beD
  split
  · exact ⟨rfl, rfl, rfl, rfl, rfl⟩
  · exact ⟨rfl, rfl, rfl, rfl, rfl⟩
theorem Eqv.be {l v : Nat} (s : PST) : Eqv (upP (beD l v) s) s := Eqv.up (f := beD l v) (fun d => by
  unfold beD
  split
  · exact ⟨rfl, rfl⟩
  · exact ⟨rfl, rfl⟩) s
theorem tk_df {K : TKS} {w : Nat} {s : PST} : pDf (tkP K w s) = pDf s := by
  unfold tkP
  split
  · rfl
  · split <;> rfl
theorem rp_df {n : Nat} {s : PST} : pDf (rpP n s) = pDf s := by
  unfold rpP
  split <;> rfl
theorem ho_df {K : TKS} {l : Nat} {s : PST} : pDf (hoP K l s) = pDf s ∨ pDf (hoP K l s) = beD l (vaP K s) (pDf s) := by
  unfold hoP
  rw [tk_df]
  have h : ∀ x : PST, pDf x = pDf s → pDf (upP (beD l (vaP K s)) x) = pDf s ∨ pDf (upP (beD l (vaP K s)) x) = beD l (vaP K s) (pDf s) := fun x hx => by
    by_cases z : pEr x = 0
    · rw [upP_e z]
      exact Or.inr (congrArg (beD l (vaP K s)) hx)
    · rw [upP_n z]
      exact Or.inl hx
  split
  · exact h _ rp_df
  · exact h _ rfl
theorem ho_B {K : TKS} {l : Nat} {s : PST} : pBk (hoP K l s) = pBk s := by
  show (pDf (hoP K l s)).1 = (pDf s).1
  rcases ho_df (K := K) (l := l) (s := s) with e | e
  · rw [e]
  · rw [e]
    exact be_df.1
theorem ho_0 {K : TKS} {l : Nat} {s : PST} (h : pEr (hoP K l s) = 0) : pEr s = 0 ∧ pDf (hoP K l s) = beD l (vaP K s) (pDf s) := by
  unfold hoP at h ⊢
  have h1 := upP_er0 (tkP_er h).1
  rw [tk_df]
  split at h1
  · exact (rpP_er (by decide) h1).elim
  · rename_i z
    rw [if_neg z, upP_e h1]
    exact ⟨h1, rfl⟩
section RMQ
variable {G : GT} {d : Nat} {h0 h : AH} {m : Nat} {K : TKS} {T : List Nat} {L : Nat → Nat} {s t : PST} {dp : Nat} {g : GCT} {no : Nat} {P : OC → AH → Prop}
/-- a jar's beans in the reference's row -/
def BnM (f fb : Nat → Int32) (k : Nat) (s : PST) : Prop := (pEr s = 0 → ∀ l, l < 6 → f (6 * k + l) = nI (dfE (pDf s) k l)) ∧ ∀ x, x < 6 * k ∨ 6 * k + 6 ≤ x → f x = fb x
theorem s_mhold2 (hd : 8 ≤ d) (rx : RxM h h m K T L s 0 g no) {k l : Nat} (hk : k ≤ 8) (hl : l < 500) (g6 : g.1 ≤ 6) (hla : pEr s = 0 → g.1 = bLa (pBk s) ∧ bJa (pBk s) = k + 1) {f fb : Nat → Int32} (ab : At h (m + 28 + 3) (.inl (0, 54, .inl f))) (bn : BnM f fb k s) : RQ G mX12_hold d 0 [some (.ref m), some (.int (nI k)), some (.int (nI l)), none] [] h (Rv fun h1 => ∃ f1, RxM h1 h1 m K T L (hoP K l s) 0 g no ∧ At h1 (m + 28 + 3) (.inl (0, 54, .inl f1)) ∧ BnM f1 fb k (hoP K l s) ∧ Kp h h1 m (fun i => i = m + 28 + 3)) := by
  refine (s_mhold hd rx hk hl g6 (fun z => (hla z).1) ab).imp (fun o9 h9 q9 => ?_)
  obtain ⟨e9, v, r9, hv, a9, u1, u2, u3⟩ := q9
  have EQ : Eqv (tkP K 40 (if nI 200 < nI (vaP K s) ∨ bLa (pBk s) ≤ l then rpP 5 s else s)) (hoP K l s) := Eqv.tk (Eqv.be _).symm
  refine ⟨e9, _, r9.eqv EQ, a9, ⟨fun z x hx => ?_, fun x hx => ?_⟩, u1, u2, fun i c a e1 e2 e3 e4 e5 => u3 i c a e1 e2 e5 e4⟩
  · obtain ⟨z1, z2⟩ := ho_0 z
    obtain ⟨y1, y2⟩ := hla z1
    have hv2 := hv (EQ.2.1.trans z)
    rw [z2]
    by_cases l6 : l < 6
    · have eb : beD l (vaP K s) (pDf s) = ((pDf s).1, dfL (pDf s), dfJ (pDf s), dfI (pDf s), upN (dfE (pDf s)) (bJa (pBk s) - 1) (upN (dfE (pDf s) (bJa (pBk s) - 1)) l (vaP K s)), dfO (pDf s)) := if_pos ⟨(show 0 < bJa (pBk s) by omega), l6⟩
      rw [eb, if_pos l6, y2]
      show (if 6 * k + x = 6 * k + l then v else f (6 * k + x)) = nI (upN (dfE (pDf s)) (k + 1 - 1) (upN (dfE (pDf s) (k + 1 - 1)) l (vaP K s)) k x)
      have e1 : upN (dfE (pDf s)) (k + 1 - 1) (upN (dfE (pDf s) (k + 1 - 1)) l (vaP K s)) k = upN (dfE (pDf s) k) l (vaP K s) := if_pos (by omega)
      rw [e1]
      by_cases q : x = l
      · rw [if_pos (by omega), hv2, q]
        exact congrArg nI (if_pos rfl).symm
      · rw [if_neg (by omega)]
        exact (bn.1 z1 x hx).trans (congrArg nI (if_neg q).symm)
    · have eb : beD l (vaP K s) (pDf s) = pDf s := if_neg (fun q => l6 q.2)
      rw [eb, if_neg l6]
      exact bn.1 z1 x hx
  · by_cases l6 : l < 6
    · rw [if_pos l6]
      exact (if_neg (by omega)).trans (bn.2 x hx)
    · rw [if_neg l6]
      exact bn.2 x hx

set_option maxHeartbeats 4000000 in
set_option maxRecDepth 100000 in
theorem s_mj144 (hd : 20 ≤ d) {k N0 : Nat} (hk : k ≤ 8) (g6 : g.1 ≤ 6) {fb : Nat → Int32} (kk : ∀ h1 s1 (f1 : Nat → Int32) (x2 : Option Value), RxM h1 h1 m K T L s1 0 g no → s1 = hsP K N0 1 t → At h1 (m + 28 + 3) (.inl (0, 54, .inl f1)) → BnM f1 fb k s1 → Kp h0 h1 m (fun i => i = m + 28 + 3) → RQ G mX12_jar d 165 [some (.ref m), some (.int (nI k)), x2] [] h1 P) : ∀ (n l : Nat) (h : AH) (s : PST) (f : Nat → Int32), hsP K n (l + 1) s = hsP K N0 1 t → l + n < 450 → (pEr s ≠ 1 → 400 ≤ n + pPo s) → (pEr s = 0 → g.1 = bLa (pBk s) ∧ bJa (pBk s) = k + 1) → RxM h h m K T L s 0 g no → At h (m + 28 + 3) (.inl (0, 54, .inl f)) → BnM f fb k s → Kp h0 h m (fun i => i = m + 28 + 3) → RQ G mX12_jar d 144 [some (.ref m), some (.int (nI k)), some (.int (nI l))] [] h P := by
  intro n
  induction n with
  | zero =>
    intro l h s f es hl hi hla rx ab bn kp
    obtain ⟨⟨th, by_, ea, a0⟩, -⟩ := id rx
    have nk : ¬ kdP K s = 32 := fun z => by
      have h1 := hi (rx.nx (by omega)).2
      exact rx.last (by omega) (by omega)
    refine tX12_jar_144  (r := ?_)
    refine tX12_jar_145  (r := ?_)
    refine tX12_jar_147 (hd := (by omega)) (ha := (by first | assumption | (repeat (first | assumption | exact At.set_eq2 (by first | omega | (simp only [hset, hnew]; omega) | rfl | decide) | exact At.new_eq2 _ _ (by first | omega | (simp only [hset, hnew]; omega) | rfl | decide) | refine At.set_ne ?_ (by first | omega | (simp only [hset, hnew]; omega) | rfl | decide) | refine At.new_ne ?_)))) (call := s_mtakes (d := 8) (by omega) rx (k := 32) (by decide)) (k := ?_)
    rintro x_ h_ ⟨hx_, -, tn_⟩
    have e_ := tn_ nk
    rw [e_, hx_, if_neg nk]
    refine tX12_jar_150  (kf := fun c_ => by exfalso; exact c_ rfl) (kt := fun _ => ?_)
    exact kk h s f _ rx es ab bn kp
  | succ n ih =>
    intro l h s f es hl hi hla rx ab bn kp
    obtain ⟨⟨th, by_, ea, a0⟩, -⟩ := id rx
    by_cases ek : kdP K s = 32
    · have en : hsP K (n + 1) (l + 1) s = hsP K n (l + 1 + 1) (hoP K (l + 1) (tkP K 32 s)) := if_pos ek
      obtain ⟨et, e1⟩ := tkP_y (K := K) (s := s) ek (by decide)
      have p1 := hi e1
      have pp : pPo (tkP K 32 s) = pPo s + 1 := by rw [et]
      have pb : pBk (tkP K 32 s) = pBk s := congrArg (fun d : DRF => d.1) tk_df
      refine tX12_jar_144  (r := ?_)
      refine tX12_jar_145  (r := ?_)
      refine tX12_jar_147 (hd := (by omega)) (ha := (by first | assumption | (repeat (first | assumption | exact At.set_eq2 (by first | omega | (simp only [hset, hnew]; omega) | rfl | decide) | exact At.new_eq2 _ _ (by first | omega | (simp only [hset, hnew]; omega) | rfl | decide) | refine At.set_ne ?_ (by first | omega | (simp only [hset, hnew]; omega) | rfl | decide) | refine At.new_ne ?_)))) (call := s_mtakes (d := 8) (by omega) rx (k := 32) (by decide)) (k := ?_)
      rintro x_ h1 ⟨hx_, ty_, -⟩
      have rx1 := ty_ ek
      rw [hx_, if_pos ek]
      obtain ⟨⟨th1, by1, ea1, p1_⟩, -, -, -, -, -, -, -, -, -, -, u1, -⟩ := id rx1
      have bn1 : BnM f fb k (tkP K 32 s) := ⟨fun z x hx => by
        rw [tk_df]
        exact bn.1 (tkP_er z).1 x hx, bn.2⟩
      refine tX12_jar_150  (kt := fun c_ => by exfalso; exact absurd c_ (by decide)) (kf := fun _ => ?_)
      refine tX12_jar_153  (r := ?_)
      rw [nI_add]
      refine tX12_jar_156  (r := ?_)
      refine tX12_jar_157  (r := ?_)
      refine tX12_jar_158  (r := ?_)
      refine tX12_jar_159 (hd := (by omega)) (ha := (by first | assumption | (repeat (first | assumption | exact At.set_eq2 (by first | omega | (simp only [hset, hnew]; omega) | rfl | decide) | exact At.new_eq2 _ _ (by first | omega | (simp only [hset, hnew]; omega) | rfl | decide) | refine At.set_ne ?_ (by first | omega | (simp only [hset, hnew]; omega) | rfl | decide) | refine At.new_ne ?_)))) (call := s_mhold2 (d := 10) (by decide) rx1.self hk (by omega) g6 (fun z => by rw [pb]; exact hla (tkP_er z).1) (u1.at ab (by omega) (by omega) (by omega)) bn1) (k := ?_)
      rintro h2 ⟨f2, rx2, ab2, bn2, kp2⟩
      refine tX12_jar_162 (r := ?_)
      have pho : pPo (tkP K 32 s) ≤ pPo (hoP K (l + 1) (tkP K 32 s)) := by
        unfold hoP
        refine Nat.le_trans ?_ tkP_po.1
        rw [pPo_up]
        split
        · rw [rpP_po]
          exact Nat.le_refl _
        · exact Nat.le_refl _
      exact ih (l + 1) h2 (hoP K (l + 1) (tkP K 32 s)) f2 (en.symm.trans es) (by omega) (fun _ => by omega) (fun z => by
        rw [ho_B, pb]
        exact hla (tkP_er (ho_0 z).1).1) rx2 ab2 bn2 ((kp.trans u1.kp).trans kp2)
    · have en : hsP K (n + 1) (l + 1) s = s := if_neg ek
      refine tX12_jar_144  (r := ?_)
      refine tX12_jar_145  (r := ?_)
      refine tX12_jar_147 (hd := (by omega)) (ha := (by first | assumption | (repeat (first | assumption | exact At.set_eq2 (by first | omega | (simp only [hset, hnew]; omega) | rfl | decide) | exact At.new_eq2 _ _ (by first | omega | (simp only [hset, hnew]; omega) | rfl | decide) | refine At.set_ne ?_ (by first | omega | (simp only [hset, hnew]; omega) | rfl | decide) | refine At.new_ne ?_)))) (call := s_mtakes (d := 8) (by omega) rx (k := 32) (by decide)) (k := ?_)
      rintro x_ h_ ⟨hx_, -, tn_⟩
      have e_ := tn_ ek
      rw [e_, hx_, if_neg ek]
      refine tX12_jar_150  (kf := fun c_ => by exfalso; exact c_ rfl) (kt := fun _ => ?_)
      exact kk h s f _ rx (en.symm.trans es) ab bn kp

set_option maxHeartbeats 4000000 in
set_option maxRecDepth 100000 in
theorem s_mj109 (hd : 20 ≤ d) {k : Nat} (hk : k ≤ 8) {fb : Nat → Int32} (kk : ∀ h1 (f1 : Nat → Int32), RxM h1 h1 m K T L s 0 g no → At h1 (m + 28 + 3) (.inl (0, 54, .inl f1)) → (∀ l, l < 6 → f1 (6 * k + l) = nI 0) → (∀ x, x < 6 * k ∨ 6 * k + 6 ≤ x → f1 x = fb x) → Kp h0 h1 m (fun i => i = m + 28 + 3) → RQ G mX12_jar d 136 [some (.ref m), some (.int (nI k)), some (.int (nI 6))] [] h1 P) : ∀ (n i : Nat) (h : AH) (f : Nat → Int32), 6 ≤ i + n → i ≤ 6 → RxM h h m K T L s 0 g no → At h (m + 28 + 3) (.inl (0, 54, .inl f)) → (∀ l, l < i → f (6 * k + l) = nI 0) → (∀ x, x < 6 * k ∨ 6 * k + 6 ≤ x → f x = fb x) → Kp h0 h m (fun i => i = m + 28 + 3) → RQ G mX12_jar d 109 [some (.ref m), some (.int (nI k)), some (.int (nI i))] [] h (P) := by
  have ex : ∀ (i : Nat) (h : AH) (f : Nat → Int32), i = 6 → RxM h h m K T L s 0 g no → At h (m + 28 + 3) (.inl (0, 54, .inl f)) → (∀ l, l < i → f (6 * k + l) = nI 0) → (∀ x, x < 6 * k ∨ 6 * k + 6 ≤ x → f x = fb x) → Kp h0 h m (fun i => i = m + 28 + 3) → RQ G mX12_jar d 109 [some (.ref m), some (.int (nI k)), some (.int (nI i))] [] h (P) := by
    intro i h f hi rx ab hz ho kp
    subst hi
    obtain ⟨⟨th, by_, ea, a0⟩, a1, -⟩ := id rx
    refine tX12_jar_109  (r := ?_)
    refine tX12_jar_110  (r := ?_)
    refine tX12_jar_112  (kf := fun c_ => by exfalso; exact c_ (by decide)) (kt := fun _ => ?_)
    exact kk h f rx ab hz ho kp
  intro n
  induction n with
  | zero => exact fun i h f h1_ h2_ => ex i h f (by omega)
  | succ n ih =>
    intro i h f h1_ h2_ rx ab hz ho kp
    by_cases hi : i = 6
    · exact ex i h f hi rx ab hz ho kp
    have hi2 : i < 6 := by omega
    obtain ⟨⟨th, by_, ea, a0⟩, a1, -⟩ := id rx
    refine tX12_jar_109  (r := ?_)
    refine tX12_jar_110  (r := ?_)
    refine tX12_jar_112  (kt := fun c_ => by exfalso; exact absurd ((nI_leI (by decide) (by omega)).mp c_) (by omega)) (kf := fun _ => ?_)
    refine tX12_jar_115  (r := ?_)
    refine tX12_jar_116 (ha := (by first | assumption | (repeat (first | assumption | exact At.set_eq2 (by first | omega | (simp only [hset, hnew]; omega) | rfl | decide) | exact At.new_eq2 _ _ (by first | omega | (simp only [hset, hnew]; omega) | rfl | decide) | refine At.set_ne ?_ (by first | omega | (simp only [hset, hnew]; omega) | rfl | decide) | refine At.new_ne ?_)))) (hv := rfl) (r := ?_)
    refine tX12_jar_119 (ha := (by first | assumption | (repeat (first | assumption | exact At.set_eq2 (by first | omega | (simp only [hset, hnew]; omega) | rfl | decide) | exact At.new_eq2 _ _ (by first | omega | (simp only [hset, hnew]; omega) | rfl | decide) | refine At.set_ne ?_ (by first | omega | (simp only [hset, hnew]; omega) | rfl | decide) | refine At.new_ne ?_)))) (hv := rfl) (r := ?_)
    refine tX12_jar_122  (r := ?_)
    refine tX12_jar_124  (r := ?_)
    refine tX12_jar_125  (r := ?_)
    rw [nI_mulN]
    refine tX12_jar_126  (r := ?_)
    refine tX12_jar_127  (r := ?_)
    rw [nI_add]
    refine tX12_jar_128  (r := ?_)
    refine tX12_jar_129 (ha := ab) (hx := rfl) (hj := (by omega)) (hn := (by decide)) (r := ?_)
    refine tX12_jar_130  (r := ?_)
    rw [nI_add]
    refine tX12_jar_133 (r := ?_)
    refine ih (i + 1) _ _ (by omega) (by omega) (rx.out (by omega)) (At.set_eq2 ab.1) (fun l hl => ?_) (fun x hx => (if_neg (by omega)).trans (ho x hx)) (kp.set (Or.inr (Or.inr (Or.inr (Or.inr rfl)))))
    show (if 6 * k + l = 6 * k + i then nI 0 else f (6 * k + l)) = nI 0
    by_cases e : l = i
    · rw [if_pos (by omega)]
    · rw [if_neg (by omega)]
      exact hz l (by omega)

end RMQ
