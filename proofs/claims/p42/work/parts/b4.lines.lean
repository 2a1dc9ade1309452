/-! reading the lines of what the law tells -/
/-- a jar: seats, way, beans told; a lid: jar, label, rules -/
abbrev EJa : Type := Nat × Nat × List Nat
abbrev ELi : Type := Nat × Nat × List ERu
def LiAt (B : BK) (i : Nat) (rs : List ERu) : Prop := (bRu B i).2 = (bRu B i).1 + rs.length ∧ (bRu B i).2 ≤ bRs B ∧ ∀ k (hk : k < rs.length), RuAt B ((bRu B i).1 + k) rs[k]
def ruN : List ELi → Nat
  | [] => 0
  | x :: s => x.2.2.length + ruN s
theorem ruN_app (a b : List ELi) : ruN (a ++ b) = ruN a + ruN b := by
  induction a with
  | nil => exact (Nat.zero_add _).symm
  | cons x s ih => show x.2.2.length + ruN (s ++ b) = x.2.2.length + ruN s + ruN b; rw [ih]; omega
/-- the draft holds what was told so far -/
def DrS (la : Nat) (js : List EJa) (ls : List ELi) (d : DRF) : Prop := (bLa d.1 = la ∧ bJa d.1 = js.length ∧ bLi d.1 = ls.length) ∧ (∀ k, k < la → dfL d k = nmL k) ∧ (∀ k (hk : k < js.length), dfJ d k = nmJ k ∧ bSe d.1 k = js[k].1 ∧ bWy d.1 k = js[k].2.1 ∧ ∀ l, dfE d k l = js[k].2.2.getD l 0) ∧ (∀ k, js.length ≤ k → ∀ l, dfE d k l = 0) ∧ (∀ i (hi : i < ls.length), dfI d i = nmD i ∧ bLl d.1 i = ls[i].2.1 ∧ dfO d i = ls[i].1 ∧ LiAt d.1 i ls[i].2.2) ∧ bRs d.1 = ruN ls ∧ cSt d.1 ≤ 23 * ruN ls ∧ nAn d.1 ≤ 3 * ruN ls
section LN2
variable {K : TKS} {la : Nat} {js : List EJa} {ls : List ELi} {d : DRF} {p et : Nat}
theorem fn_L (h : DrS la js ls d) {v : Nat} (n : ∀ k, k < la → nmL k ≠ v) : fnN (dfL d) v (bLa d.1) = none := by
  rw [h.1.1]
  exact fnN_none.mpr (fun k hk => by rw [h.2.1 k hk]; exact n k hk)
theorem fn_J (h : DrS la js ls d) {v : Nat} (n : ∀ k, k < js.length → nmJ k ≠ v) : fnN (dfJ d) v (bJa d.1) = none := by
  rw [h.1.2.1]
  exact fnN_none.mpr (fun k hk => by rw [(h.2.2.1 k hk).1]; exact n k hk)
theorem fn_D (h : DrS la js ls d) {v : Nat} (n : ∀ k, k < ls.length → nmD k ≠ v) : fnN (dfI d) v (bLi d.1) = none := by
  rw [h.1.2.2]
  exact fnN_none.mpr (fun k hk => by rw [(h.2.2.2.2.1 k hk).1]; exact n k hk)
theorem nw_go (h : DrS la js ls d) {full : Bool} (hf : full = false) (n1 : ∀ k, k < la → nmL k ≠ vvT K p) (n2 : ∀ k, k < js.length → nmJ k ≠ vvT K p) (n3 : ∀ k, k < ls.length → nmD k ≠ vvT K p) : nwP K full (p, 0, et, d) = (p, 0, et, d) := by
  unfold nwP
  rw [if_neg (by rw [hf]; decide)]
  exact if_pos ⟨fn_L h n1, fn_J h n2, fn_D h n3⟩
/-- a label's line -/
theorem ll_go (h : DrS la js ls d) (h6 : la < 6) (hj : js.length ≤ 8) (hl : ls.length ≤ 6) (k0 : kdT K p = 0) (k1 : kdT K (p + 1) = 39) (v1 : vvT K (p + 1) = nmL la) : ∃ d', lnP K (p, 0, et, d) = (p + 1 + 1, 0, et, d') ∧ DrS (la + 1) js ls d' := by
  have h0 := h
  obtain ⟨⟨a1, a2, a3⟩, b, c, e, f, g⟩ := h
  refine ⟨laD (nmL la) d, ?_, ?_⟩
  · unfold lnP
    rw [kd_go, if_pos k0]
    unfold llP
    have e1 : nlP K (p, 0, et, d) = (p + 1, 0, et, d) := by
      unfold nlP
      rw [tk_go k0]
      exact nw_go h0 (decide_eq_false (by show ¬ 6 ≤ bLa d.1; omega)) (fun k hk => by rw [v1]; unfold nmL; omega) (fun k hk => by rw [v1]; unfold nmL nmJ; omega) (fun k hk => by rw [v1]; unfold nmL nmD; omega)
    rw [e1, show vaP K (p + 1, 0, et, d) = nmL la from v1, up_go, tk_go k1]
  · unfold laD
    rw [if_pos (by omega)]
    refine ⟨⟨by show bLa d.1 + 1 = _; omega, a2, a3⟩, fun k hk => ?_, c, e, f, g⟩
    show (if k = bLa d.1 then nmL la else dfL d k) = nmL k
    by_cases z : k = bLa d.1
    · rw [if_pos z, z, a1]
    · rw [if_neg z, b k (by omega)]
/-- a number of beans -/
theorem ho_go {l b : Nat} (h1 : kdT K p = 40) (hv : vvT K p = b) (hb : b ≤ 200) (hl : l < bLa d.1) : hoP K l (p, 0, et, d) = (p + 1, 0, et, beD l b d) := by
  unfold hoP
  have e : vaP K (p, 0, et, d) = b := hv
  rw [e, if_neg (fun z => by
    rcases z with z | z
    · have := (nI_ltI (by decide) (by omega)).mp z
      omega
    · have z : bLa d.1 ≤ l := z
      omega), up_go, tk_go h1]
def beK : List Nat → List (Nat × Nat)
  | [] => []
  | b :: s => (32, 0) :: (40, b) :: beK s
def beF : Nat → List Nat → DRF → DRF
  | _, [], d => d
  | l, b :: s, d => beF (l + 1) s (beD l b d)
theorem beD_id {l b : Nat} {d : DRF} : (beD l b d).1 = d.1 := by
  unfold beD
  split <;> rfl
theorem hs_go : ∀ (s : List Nat) (n l p : Nat) (d : DRF), s.length < n → PosL K p (beK s) → kdT K (p + (beK s).length) ≠ 32 → (∀ b ∈ s, b ≤ 200) → l + s.length ≤ bLa d.1 → hsP K n l (p, 0, et, d) = (p + (beK s).length, 0, et, beF l s d)
  | [], n + 1, l, p, d, _, _, h32, _, _ => by
    have h32 : kdT K p ≠ 32 := h32
    show (if kdP K (p, 0, et, d) = 32 then _ else _) = _
    rw [kd_go, if_neg h32]
    rfl
  | b :: s, n + 1, l, p, d, hn, h, h32, hb, hl => by
    obtain ⟨h1, h2, h3⟩ := h
    have h1 : kdT K p = 32 := h1.1
    have el : p + (beK (b :: s)).length = p + 1 + 1 + (beK s).length := by
      simp only [beK, List.length_cons]
      omega
    rw [el] at h32 ⊢
    simp only [List.length_cons] at hn hl
    show (if kdP K (p, 0, et, d) = 32 then hsP K n (l + 1) (hoP K l (tkP K 32 (p, 0, et, d))) else _) = _
    rw [kd_go, if_pos h1, tk_go h1, ho_go (b := b) h2.1 h2.2 (hb b List.mem_cons_self) (by omega)]
    exact hs_go s n (l + 1) (p + 1 + 1) (beD l b d) (by omega) h3 h32 (fun x hx => hb x (List.mem_cons_of_mem _ hx)) (by rw [beD_id]; omega)
/-- the beans that are told -/
theorem beF_go : ∀ (s : List Nat) (l : Nat) (d : DRF), 0 < bJa d.1 → l + s.length ≤ 6 → (beF l s d).1 = d.1 ∧ dfL (beF l s d) = dfL d ∧ dfJ (beF l s d) = dfJ d ∧ dfI (beF l s d) = dfI d ∧ dfO (beF l s d) = dfO d ∧ (∀ j, j ≠ bJa d.1 - 1 → dfE (beF l s d) j = dfE d j) ∧ ∀ k, dfE (beF l s d) (bJa d.1 - 1) k = if l ≤ k ∧ k < l + s.length then s.getD (k - l) 0 else dfE d (bJa d.1 - 1) k
  | [], l, d, _, _ => ⟨rfl, rfl, rfl, rfl, rfl, fun _ _ => rfl, fun k => by rw [if_neg (by simp only [List.length_nil]; omega)]; rfl⟩
  | b :: s, l, d, h0, hl => by
    simp only [List.length_cons] at hl
    have e : beD l b d = (d.1, dfL d, dfJ d, dfI d, upN (dfE d) (bJa d.1 - 1) (upN (dfE d (bJa d.1 - 1)) l b), dfO d) := if_pos ⟨h0, by omega⟩
    obtain ⟨r1, r2, r3, r4, r5, r6, r7⟩ := beF_go s (l + 1) (beD l b d) (by rw [beD_id]; exact h0) (by omega)
    rw [beD_id] at r1 r6 r7
    refine ⟨r1, r2.trans (by rw [e]), r3.trans (by rw [e]), r4.trans (by rw [e]), r5.trans (by rw [e]), fun j hj => (r6 j hj).trans (by rw [e]; exact if_neg hj), fun k => ?_⟩
    show dfE (beF (l + 1) s (beD l b d)) (bJa d.1 - 1) k = _
    rw [r7 k]
    have e2 : dfE (beD l b d) (bJa d.1 - 1) k = if k = l then b else dfE d (bJa d.1 - 1) k := by
      rw [e]
      show upN (dfE d) (bJa d.1 - 1) (upN (dfE d (bJa d.1 - 1)) l b) (bJa d.1 - 1) k = _
      unfold upN
      rw [if_pos rfl]
    rw [e2]
    simp only [List.length_cons]
    by_cases z : k = l
    · subst z
      rw [if_neg (by omega), if_pos rfl, if_pos (by omega), Nat.sub_self]
      rfl
    · rw [if_neg z]
      by_cases y : l + 1 ≤ k ∧ k < l + 1 + s.length
      · rw [if_pos y, if_pos (by omega), show k - l = (k - (l + 1)) + 1 by omega]
        rfl
      · rw [if_neg y, if_neg (by omega)]
/-- a jar's line -/
def jaK (k : Nat) (x : EJa) : List (Nat × Nat) := (1, 0) :: (39, nmJ k) :: (2, 0) :: (40, x.1) :: (3, 0) :: (24 + x.2.1, 0) :: (4, 0) :: (40, x.2.2.getD 0 0) :: beK x.2.2.tail
def okJ (la : Nat) (x : EJa) : Prop := (1 ≤ x.1 ∧ x.1 ≤ 9) ∧ x.2.1 < 3 ∧ (1 ≤ x.2.2.length ∧ x.2.2.length ≤ la) ∧ ∀ b ∈ x.2.2, b ≤ 200
theorem jl_go (h : DrS la js ls d) (h6 : la ≤ 6) (hj : js.length < 8) (hl : ls.length ≤ 6) {x : EJa} (ok : okJ la x) (q : PosL K p (jaK js.length x)) (h31 : kdT K (p + (jaK js.length x).length) = 31) : ∃ d', lnP K (p, 0, et, d) = (p + (jaK js.length x).length, 0, et, d') ∧ DrS la (js ++ [x]) ls d' := by
  obtain ⟨se, wy, bs⟩ := x
  obtain ⟨⟨o1, o2⟩, o3, ⟨o4, o5⟩, o6⟩ := ok
  have o1 : 1 ≤ se := o1
  have o2 : se ≤ 9 := o2
  have o3 : wy < 3 := o3
  match bs, o4, o5, o6, q, h31 with
  | b :: s, o4, o5, o6, q, h31 =>
  have o5 : s.length + 1 ≤ la := o5
  have o6 : ∀ y ∈ b :: s, y ≤ 200 := o6
  have h0 := h
  obtain ⟨⟨a1, a2, a3⟩, hb, c, e, f, g⟩ := h
  obtain ⟨q1, q2, q3, q4, q5, q6, q7, q8, q9⟩ := q
  have k1 : kdT K p = 1 := q1.1
  have k2 : kdT K (p + 1) = 39 := q2.1
  have v2 : vvT K (p + 1) = nmJ js.length := q2.2
  have k3 : kdT K (p + 1 + 1) = 2 := q3.1
  have k4 : kdT K (p + 1 + 1 + 1) = 40 := q4.1
  have v4 : vvT K (p + 1 + 1 + 1) = se := q4.2
  have k5 : kdT K (p + 1 + 1 + 1 + 1) = 3 := q5.1
  have k6 : kdT K (p + 1 + 1 + 1 + 1 + 1) = 24 + wy := q6.1
  have k7 : kdT K (p + 1 + 1 + 1 + 1 + 1 + 1) = 4 := q7.1
  have k8 : kdT K (p + 1 + 1 + 1 + 1 + 1 + 1 + 1) = 40 := q8.1
  have v8 : vvT K (p + 1 + 1 + 1 + 1 + 1 + 1 + 1) = b := q8.2
  have q9 : PosL K (p + 1 + 1 + 1 + 1 + 1 + 1 + 1 + 1) (beK s) := q9
  have el : p + (jaK js.length (se, wy, b :: s)).length = p + 1 + 1 + 1 + 1 + 1 + 1 + 1 + 1 + (beK s).length := by
    show p + ((beK s).length + 1 + 1 + 1 + 1 + 1 + 1 + 1 + 1) = _
    omega
  rw [el] at h31 ⊢
  have eJ : jaD (nmJ js.length) d = ((bLa d.1, bJa d.1 + 1, bLi d.1, bSe d.1, bWy d.1, bLl d.1, bRu d.1, bRs d.1, bSc d.1, bNd d.1), dfL d, upN (dfJ d) (bJa d.1) (nmJ js.length), dfI d, dfE d, dfO d) := if_pos (by omega)
  generalize hd1 : jaD (nmJ js.length) d = d1 at *
  have n1 : njP K (p, 0, et, d) = (p + 1, 0, et, d) := by
    unfold njP
    rw [tk_go k1]
    exact nw_go h0 (decide_eq_false (by show ¬ 8 ≤ bJa d.1; omega)) (fun k hk => by rw [v2]; unfold nmL nmJ; omega) (fun k hk => by rw [v2]; unfold nmJ; omega) (fun k hk => by rw [v2]; unfold nmJ nmD; omega)
  have n2 : j1P K (p, 0, et, d) = (p + 1 + 1 + 1, 0, et, d1) := by
    unfold j1P
    rw [n1, show vaP K (p + 1, 0, et, d) = nmJ js.length from v2, up_go, hd1, tk_go k2, tk_go k3]
  have n3 : j2P K (p + 1 + 1 + 1, 0, et, d1) = (p + 1 + 1 + 1 + 1 + 1, 0, et, d1) := by
    unfold j2P
    rw [show vaP K (p + 1 + 1 + 1, 0, et, d1) = se from v4, if_neg (fun z => by
      rcases z with z | z
      · have := (nI_ltI (by omega) (by decide)).mp z
        omega
      · have := (nI_ltI (by decide) (by omega)).mp z
        omega), tk_go k4, tk_go k5]
  have hw : wyW (24 + wy) = 24 + wy := by
    unfold wyW
    by_cases z : 24 + wy = 24 ∨ 24 + wy = 25
    · rw [if_pos z]
    · rw [if_neg z]; omega
  have n4 : j3P K se (p + 1 + 1 + 1 + 1 + 1, 0, et, d1) = (p + 1 + 1 + 1 + 1 + 1 + 1 + 1, 0, et, seD se (24 + wy) d1) := by
    unfold j3P
    rw [kd_go, k6, hw, tk_go k6, up_go, tk_go k7]
  have b1 : bJa d1.1 = js.length + 1 := by rw [eJ]; show bJa d.1 + 1 = _; omega
  have eS : seD se (24 + wy) d1 = ((bLa d1.1, bJa d1.1, bLi d1.1, upN (bSe d1.1) (bJa d1.1 - 1) se, upN (bWy d1.1) (bJa d1.1 - 1) (24 + wy - 24), bLl d1.1, bRu d1.1, bRs d1.1, bSc d1.1, bNd d1.1), d1.2) := if_pos (by omega)
  generalize hd2 : seD se (24 + wy) d1 = d2 at *
  have b2 : bJa d2.1 = js.length + 1 := by rw [eS]; exact b1
  have bl2 : bLa d2.1 = la := by rw [eS, eJ]; exact a1
  have n5 : hoP K 0 (p + 1 + 1 + 1 + 1 + 1 + 1 + 1, 0, et, d2) = (p + 1 + 1 + 1 + 1 + 1 + 1 + 1 + 1, 0, et, beD 0 b d2) := ho_go k8 v8 (o6 b List.mem_cons_self) (by omega)
  have n6 := hs_go (K := K) (et := et) s 399 1 (p + 1 + 1 + 1 + 1 + 1 + 1 + 1 + 1) (beD 0 b d2) (by omega) q9 (by rw [h31]; decide) (fun y hy => o6 y (List.mem_cons_of_mem _ hy)) (by rw [beD_id, bl2]; omega)
  refine ⟨beF 0 (b :: s) d2, ?_, ?_⟩
  · unfold lnP
    rw [kd_go, k1, if_neg (by decide), if_pos rfl]
    unfold jlP
    rw [n2, n3, show vaP K (p + 1 + 1 + 1, 0, et, d1) = se from v4, n4, n5, n6]
    rfl
  · obtain ⟨r1, r2, r3, r4, r5, r6, r7⟩ := beF_go (b :: s) 0 d2 (by omega) (by simp only [List.length_cons]; omega)
    generalize hd3 : beF 0 (b :: s) d2 = d3 at *
    rw [b2, Nat.add_sub_cancel] at r6 r7
    have x1 : dfL d3 = dfL d := by rw [r2, eS, eJ]
    have x2 : dfJ d3 = upN (dfJ d) (bJa d.1) (nmJ js.length) := by rw [r3, eS, eJ]
    have x3 : dfI d3 = dfI d := by rw [r4, eS, eJ]
    have x4 : dfO d3 = dfO d := by rw [r5, eS, eJ]
    have x5 : dfE d2 = dfE d := by rw [eS, eJ]
    have y1 : bSe d3.1 = upN (bSe d.1) js.length se := by
      rw [r1, eS, eJ]
      show upN (bSe d.1) (bJa d.1 + 1 - 1) se = _
      rw [a2, Nat.add_sub_cancel]
    have y2 : bWy d3.1 = upN (bWy d.1) js.length wy := by
      rw [r1, eS, eJ]
      show upN (bWy d.1) (bJa d.1 + 1 - 1) (24 + wy - 24) = _
      rw [a2, Nat.add_sub_cancel, Nat.add_sub_cancel_left]
    have y3 : bLl d3.1 = bLl d.1 ∧ bRu d3.1 = bRu d.1 ∧ bRs d3.1 = bRs d.1 ∧ bSc d3.1 = bSc d.1 ∧ bNd d3.1 = bNd d.1 ∧ bLa d3.1 = bLa d.1 ∧ bLi d3.1 = bLi d.1 ∧ bJa d3.1 = bJa d.1 + 1 := by
      rw [r1, eS, eJ]
      exact ⟨rfl, rfl, rfl, rfl, rfl, rfl, rfl, rfl⟩
    obtain ⟨z1, z2, z3, z4, z5, z6, z7, z8⟩ := y3
    refine ⟨⟨z6.trans a1, by rw [z8, a2, List.length_append]; rfl, z7.trans a3⟩, by rw [x1]; exact hb, fun k hk => ?_, fun k hk l => ?_, fun i hi => ?_, by rw [z3]; exact g.1, ?_, ?_⟩
    · rw [List.length_append] at hk
      have hk : k < js.length + 1 := hk
      by_cases z : k < js.length
      · obtain ⟨c1, c2, c3, c4⟩ := c k z
        rw [List.getElem_append_left z, x2, y1, y2]
        refine ⟨(if_neg (by omega)).trans c1, (if_neg (by omega)).trans c2, (if_neg (by omega)).trans c3, fun l => ?_⟩
        rw [r6 k (by omega), x5]
        exact c4 l
      · obtain rfl : k = js.length := by omega
        rw [List.getElem_append_right (Nat.le_refl _), x2, y1, y2]
        simp only [Nat.sub_self, List.getElem_cons_zero]
        refine ⟨if_pos a2.symm, if_pos rfl, if_pos rfl, fun l => ?_⟩
        rw [r7 l, x5]
        by_cases y : 0 ≤ l ∧ l < 0 + (b :: s).length
        · rw [if_pos y, Nat.sub_zero]
        · rw [if_neg y, e _ (Nat.le_refl _), List.getD_eq_getElem?_getD, List.getElem?_eq_none (by omega)]
          rfl
    · rw [List.length_append] at hk
      have hk : js.length + 1 ≤ k := hk
      rw [r6 k (by omega), x5]
      exact e k (by omega) l
    · obtain ⟨f1, f2, f3, f4⟩ := f i hi
      rw [x3, x4, z1]
      refine ⟨f1, f2, f3, ?_⟩
      unfold LiAt RuAt StAt at f4 ⊢
      have e1 : cSt d3.1 = cSt d.1 := congrArg (fun x => x.1) z4
      have e2 : cKd d3.1 = cKd d.1 := congrArg (fun x => x.2.1) z4
      have e3 : cNu d3.1 = cNu d.1 := congrArg (fun x => x.2.2.1) z4
      have e4 : cTe d3.1 = cTe d.1 := congrArg (fun x => x.2.2.2.1) z4
      have e5 : cTn d3.1 = cTn d.1 := congrArg (fun x => x.2.2.2.2.1) z4
      have e6 : cAe d3.1 = cAe d.1 := congrArg (fun x => x.2.2.2.2.2) z4
      rw [z2, z3, e1, e2, e3, e4, e5, e6]
      exact f4
    · have e1 : cSt d3.1 = cSt d.1 := congrArg (fun x => x.1) z4
      rw [e1]
      exact g.2.1
    · have e1 : nAn d3.1 = nAn d.1 := congrArg (fun x => x.2.1) z5
      rw [e1]
      exact g.2.2
end LN2
