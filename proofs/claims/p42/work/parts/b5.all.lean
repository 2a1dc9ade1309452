/-! reading lids' lines, and all lines -/
/-- rules come to lid i -/
theorem rs_ap : ∀ (rs : List ERu) (d : DRF) (i : Nat), bLi d.1 = i + 1 → bRs d.1 + rs.length ≤ 24 → (∀ e ∈ rs, e.2.length ≤ 3) → cSt d.1 + 23 * rs.length ≤ 400 → (bRu d.1 i).2 = bRs d.1 → (apO (rsO rs) d).2 = d.2 ∧ (bLa (apO (rsO rs) d).1 = bLa d.1 ∧ bJa (apO (rsO rs) d).1 = bJa d.1 ∧ bLi (apO (rsO rs) d).1 = bLi d.1 ∧ bSe (apO (rsO rs) d).1 = bSe d.1 ∧ bWy (apO (rsO rs) d).1 = bWy d.1 ∧ bLl (apO (rsO rs) d).1 = bLl d.1) ∧ bRs (apO (rsO rs) d).1 = bRs d.1 + rs.length ∧ ((∀ j, j ≠ i → bRu (apO (rsO rs) d).1 j = bRu d.1 j) ∧ bRu (apO (rsO rs) d).1 i = ((bRu d.1 i).1, bRs d.1 + rs.length)) ∧ cSt (apO (rsO rs) d).1 ≤ cSt d.1 + 23 * rs.length ∧ nAn (apO (rsO rs) d).1 ≤ nAn d.1 + 3 * rs.length ∧ Grw d.1 (apO (rsO rs) d).1 ∧ (∀ r, r < bRs d.1 → cTe (apO (rsO rs) d).1 r = cTe d.1 r ∧ cTn (apO (rsO rs) d).1 r = cTn d.1 r ∧ cAe (apO (rsO rs) d).1 r = cAe d.1 r) ∧ ∀ k (hk : k < rs.length), RuAt (apO (rsO rs) d).1 (bRs d.1 + k) rs[k]
  | [], d, i, _, _, _, _, h5 => ⟨rfl, ⟨rfl, rfl, rfl, rfl, rfl, rfl⟩, rfl, ⟨fun _ _ => rfl, Prod.ext rfl h5⟩, Nat.le_refl _, Nat.le_refl _, ⟨Nat.le_refl _, fun _ _ => ⟨rfl, rfl⟩⟩, fun _ _ => ⟨rfl, rfl, rfl⟩, fun k hk => absurd hk (Nat.not_lt_zero k)⟩
  | e :: s, d, i, h1, h2, h3, h4, h5 => by
    simp only [List.length_cons] at h2 h4 ⊢
    have e0 : apO (rsO (e :: s)) d = apO (rsO s) (apO (ruO e) d) := apO_app _ _ _
    rw [e0]
    have he := h3 e List.mem_cons_self
    obtain ⟨a1, ⟨a2, a3, a4, a5, a6, a7⟩, a8, a9, a10, a11, a12, a13, a14⟩ := ru_ap (e := e) h1 (by omega) he (by omega)
    generalize apO (ruO e) d = d1 at *
    obtain ⟨b1, ⟨b2, b3, b4, b5, b6, b7⟩, b8, ⟨b9, b9'⟩, b10, b11, b12, b13, b14⟩ := rs_ap s d1 i (a4.trans h1) (by omega) (fun x hx => h3 x (List.mem_cons_of_mem _ hx)) (by omega) (by rw [a9, a8]; show (if i = i then ((bRu d.1 i).1, bRs d.1 + 1) else bRu d.1 i).2 = _; rw [if_pos rfl])
    have ui : bRu d1.1 i = ((bRu d.1 i).1, bRs d.1 + 1) := by rw [a9]; exact if_pos rfl
    refine ⟨b1.trans a1, ⟨b2.trans a2, b3.trans a3, b4.trans a4, b5.trans a5, b6.trans a6, b7.trans a7⟩, by omega, ⟨fun j hj => (b9 j hj).trans (by rw [a9]; exact if_neg hj), ?_⟩, by omega, by omega, ⟨Nat.le_trans a12.1 b12.1, fun k hk => ?_⟩, fun r hr => ?_, fun k hk => ?_⟩
    · rw [b9', ui, a8]
      exact Prod.ext rfl (by show bRs d.1 + 1 + s.length = bRs d.1 + (s.length + 1); omega)
    · obtain ⟨p1, p2⟩ := a12.2 k hk
      obtain ⟨p3, p4⟩ := b12.2 k (by have := a12.1; omega)
      exact ⟨p3.trans p1, p4.trans p2⟩
    · obtain ⟨p1, p2, p3⟩ := a13 r hr
      obtain ⟨p4, p5, p6⟩ := b13 r (by omega)
      exact ⟨p4.trans p1, p5.trans p2, p6.trans p3⟩
    · cases k with
      | zero =>
        obtain ⟨p4, p5, p6⟩ := b13 (bRs d.1) (by omega)
        exact a14.mono b12 p4 p5 p6
      | succ k =>
        have := b14 k (by omega)
        rw [a8, show bRs d.1 + 1 + k = bRs d.1 + (k + 1) by omega] at this
        exact this
/-- a lid's line -/
def liK (i : Nat) (x : ELi) : List (Nat × Nat) := (5, 0) :: (39, nmD i) :: (6, 0) :: (39, nmJ x.1) :: (7, 0) :: (39, nmL x.2.1) :: rsK x.2.2
def okI (la ja : Nat) (x : ELi) : Prop := x.1 < ja ∧ x.2.1 < la ∧ ∀ e ∈ x.2.2, okRu la ja e
section LN3
variable {K : TKS} {la : Nat} {js : List EJa} {ls : List ELi} {d : DRF} {p et : Nat}
theorem DrS.en (h : DrS la js ls d) : En la js.length d := ⟨h.1.1, h.1.2.1, h.2.1, fun k hk => (h.2.2.1 k hk).1⟩
theorem DrS.nz {d' : DRF} (h : DrS la js ls d') (e : nz d = d') : DrS la js ls d := by
  rw [← e] at h
  exact h
theorem il_go (h : DrS la js ls d) (h6 : la ≤ 6) (hj : js.length ≤ 8) (hl : ls.length < 6) {x : ELi} (ok : okI la js.length x) (hr : ruN ls + x.2.2.length ≤ 12) (q : PosL K p (liK ls.length x)) (h31 : kdT K (p + (liK ls.length x).length) = 31) : ∃ d', lnP K (p, 0, et, d) = (p + (liK ls.length x).length, 0, et, d') ∧ DrS la js (ls ++ [x]) d' := by
  obtain ⟨jj, ll, rs⟩ := x
  obtain ⟨o1, o2, o3⟩ := ok
  have o1 : jj < js.length := o1
  have o2 : ll < la := o2
  have o3 : ∀ e ∈ rs, okRu la js.length e := o3
  have hr : ruN ls + rs.length ≤ 12 := hr
  have h0 := h
  have en := h.en
  obtain ⟨⟨a1, a2, a3⟩, hb, c, e, f, g1, g2, g3⟩ := h
  obtain ⟨q1, q2, q3, q4, q5, q6, q7⟩ := q
  have k1 : kdT K p = 5 := q1.1
  have k2 : kdT K (p + 1) = 39 := q2.1
  have v2 : vvT K (p + 1) = nmD ls.length := q2.2
  have k3 : kdT K (p + 1 + 1) = 6 := q3.1
  have k4 : kdT K (p + 1 + 1 + 1) = 39 := q4.1
  have v4 : vvT K (p + 1 + 1 + 1) = nmJ jj := q4.2
  have k5 : kdT K (p + 1 + 1 + 1 + 1) = 7 := q5.1
  have k6 : kdT K (p + 1 + 1 + 1 + 1 + 1) = 39 := q6.1
  have v6 : vvT K (p + 1 + 1 + 1 + 1 + 1) = nmL ll := q6.2
  have q7 : PosL K (p + 1 + 1 + 1 + 1 + 1 + 1) (rsK rs) := q7
  have el : p + (liK ls.length (jj, ll, rs)).length = p + 1 + 1 + 1 + 1 + 1 + 1 + (rsK rs).length := by
    show p + ((rsK rs).length + 1 + 1 + 1 + 1 + 1 + 1) = _
    omega
  rw [el] at h31 ⊢
  have n1 : niP K (p, 0, et, d) = (p + 1, 0, et, d) := by
    unfold niP
    rw [tk_go k1]
    exact nw_go h0 (decide_eq_false (by show ¬ 6 ≤ bLi d.1; omega)) (fun k hk => by rw [v2]; unfold nmL nmD; omega) (fun k hk => by rw [v2]; unfold nmJ nmD; omega) (fun k hk => by rw [v2]; unfold nmD; omega)
  have n2 : i1P K (p, 0, et, d) = (p + 1 + 1 + 1, 0, et, d) := by
    unfold i1P
    rw [n1, tk_go k2, tk_go k3]
  have n3 : i2P K (p + 1 + 1 + 1, 0, et, d) = (p + 1 + 1 + 1 + 1 + 1, 0, et, d) := by
    unfold i2P
    rw [ja_go en v4 o1, tk_go k4, tk_go k5]
  have n4 : i3P K (p + 1 + 1 + 1 + 1 + 1, 0, et, d) = (p + 1 + 1 + 1 + 1 + 1 + 1, 0, et, d) := by
    unfold i3P
    rw [la_go en v6 o2, tk_go k6]
  have eI : liD (nmD ls.length) jj ll d = ((bLa d.1, bJa d.1, bLi d.1 + 1, bSe d.1, bWy d.1, upN (bLl d.1) (bLi d.1) ll, upN (bRu d.1) (bLi d.1) (bRs d.1, bRs d.1), bRs d.1, bSc d.1, bNd d.1), dfL d, dfJ d, upN (dfI d) (bLi d.1) (nmD ls.length), dfE d, upN (dfO d) (bLi d.1) jj) := if_pos (by omega)
  have n5 : i4P K (p, 0, et, d) = (p + 1 + 1 + 1 + 1 + 1 + 1, 0, et, liD (nmD ls.length) jj ll d) := by
    unfold i4P
    rw [n1, n2, n3, n4, show vaP K (p + 1, 0, et, d) = nmD ls.length from v2, jb_go en v4 o1, lb_go en v6 o2, up_go]
    rfl
  generalize liD (nmD ls.length) jj ll d = d1 at *
  have en1 : En la js.length d1 := by
    rw [eI]
    exact ⟨a1, a2, hb, fun k hk => (c k hk).1⟩
  have oR : ∀ s : List ERu, (∀ e ∈ s, okRu la js.length e) → opA (rsO s) ≤ 3 * s.length ∧ opR (rsO s) = s.length := by
    intro s
    induction s with
    | nil => intro _; exact ⟨Nat.le_refl _, rfl⟩
    | cons r s ih =>
      intro ho
      obtain ⟨i1, i2⟩ := ih (fun e he => ho e (List.mem_cons_of_mem _ he))
      have hr := (ho r List.mem_cons_self).2.1
      obtain ⟨s1, s2, s3⟩ := as_o r.2
      have e1 : rsO (r :: s) = ruO r ++ rsO s := rfl
      have e2 : ruO r = [(2, 0, 0)] ++ (t1C r.1 ++ ([(3, 0, 0)] ++ (asO r.2 ++ [(4, 0, 0)]))) := rfl
      rw [e1, opA_app, opR_app, e2, opA_app, opA_app, opA_app, opA_app, opR_app, opR_app, opR_app, opR_app, t1_a, s3, opR0 (t1_o r.1).1, opR0 s1]
      have w1 : opA [(2, 0, 0)] = 0 := rfl
      have w2 : opA [(3, 0, 0)] = 0 := rfl
      have w3 : opA [(4, 0, 0)] = 0 := rfl
      have w4 : opR [(2, 0, 0)] = 1 := rfl
      have w5 : opR [(3, 0, 0)] = 0 := rfl
      have w6 : opR [(4, 0, 0)] = 0 := rfl
      rw [w1, w2, w3, w4, w5, w6]
      simp only [List.length_cons]
      omega
  obtain ⟨oR1, oR2⟩ := oR rs o3
  have pre : Pre la js.length d1 (rsO rs) := by
    refine ⟨en1, ?_, ?_⟩
    · rw [eI]
      show nAn d.1 + opA (rsO rs) ≤ 60
      omega
    · rw [eI]
      show bRs d.1 + opR (rsO rs) ≤ 24
      omega
  obtain ⟨d2, m1, m2⟩ := GsP.rs rs 400 (p + 1 + 1 + 1 + 1 + 1 + 1) (by omega) o3 q7 (by rw [h31]; decide) et d1 pre
  refine ⟨d2, ?_, ?_⟩
  · unfold lnP
    rw [kd_go, k1, if_neg (by decide), if_neg (by decide)]
    unfold ilP
    rw [n5]
    exact m1
  · refine DrS.nz ?_ m2
    have e9 : nz d1 = ((bLa d.1, bJa d.1, bLi d.1 + 1, bSe d.1, bWy d.1, upN (bLl d.1) (bLi d.1) ll, upN (bRu d.1) (bLi d.1) (bRs d.1, bRs d.1), bRs d.1, bSc d.1, (0, nAn d.1, fun _ => 0, fun _ => 0, fun _ => 0, fun _ => (0, 0, 0, 0), fun _ => (0, 0, 0, 0))), dfL d, dfJ d, upN (dfI d) (bLi d.1) (nmD ls.length), dfE d, upN (dfO d) (bLi d.1) jj) := by
      rw [eI]
      rfl
    obtain ⟨r1, ⟨r2, r3, r4, r5, r6, r7⟩, r8, ⟨r9, r9'⟩, r10, r11, r12, r13, r14⟩ := rs_ap rs (nz d1) ls.length (by rw [e9]; show bLi d.1 + 1 = _; omega) (by rw [e9]; show bRs d.1 + _ ≤ 24; omega) (fun e he => (o3 e he).2.1) (by rw [e9]; show cSt d.1 + _ ≤ 400; omega) (by rw [e9]; show (upN (bRu d.1) (bLi d.1) (bRs d.1, bRs d.1) ls.length).2 = bRs d.1; rw [a3]; unfold upN; rw [if_pos rfl])
    generalize apO (rsO rs) (nz d1) = d3 at *
    rw [e9] at r1 r2 r3 r4 r5 r6 r7 r8 r9 r9' r10 r11 r12 r13 r14
    have r8 : bRs d3.1 = bRs d.1 + rs.length := r8
    have r10 : cSt d3.1 ≤ cSt d.1 + 23 * rs.length := r10
    have r11 : nAn d3.1 ≤ nAn d.1 + 3 * rs.length := r11
    have r9 : ∀ j, j ≠ ls.length → bRu d3.1 j = upN (bRu d.1) (bLi d.1) (bRs d.1, bRs d.1) j := r9
    have r9' : bRu d3.1 ls.length = ((upN (bRu d.1) (bLi d.1) (bRs d.1, bRs d.1) ls.length).1, bRs d.1 + rs.length) := r9'
    have u1 : upN (bRu d.1) (bLi d.1) (bRs d.1, bRs d.1) ls.length = (bRs d.1, bRs d.1) := if_pos a3.symm
    rw [u1] at r9'
    have r12 : Grw d.1 d3.1 := r12
    have r13 : ∀ r, r < bRs d.1 → cTe d3.1 r = cTe d.1 r ∧ cTn d3.1 r = cTn d.1 r ∧ cAe d3.1 r = cAe d.1 r := r13
    have r14 : ∀ k (hk : k < rs.length), RuAt d3.1 (bRs d.1 + k) rs[k] := r14
    have x1 : dfL d3 = dfL d := congrArg (fun x => x.1) r1
    have x2 : dfJ d3 = dfJ d := congrArg (fun x => x.2.1) r1
    have x3 : dfI d3 = upN (dfI d) (bLi d.1) (nmD ls.length) := congrArg (fun x => x.2.2.1) r1
    have x4 : dfE d3 = dfE d := congrArg (fun x => x.2.2.2.1) r1
    have x5 : dfO d3 = upN (dfO d) (bLi d.1) jj := congrArg (fun x => x.2.2.2.2) r1
    have r7 : bLl d3.1 = upN (bLl d.1) (bLi d.1) ll := r7
    refine ⟨⟨r2.trans a1, r3.trans a2, by rw [r4, List.length_append]; show bLi d.1 + 1 = _; rw [a3]; rfl⟩, by rw [x1]; exact hb, fun k hk => ?_, fun k hk l => by rw [x4]; exact e k hk l, fun i hi => ?_, ?_, ?_, ?_⟩
    · obtain ⟨c1, c2, c3, c4⟩ := c k hk
      rw [x2, r5, r6, x4]
      exact ⟨c1, c2, c3, c4⟩
    · rw [List.length_append] at hi
      have hi : i < ls.length + 1 := hi
      by_cases z : i < ls.length
      · obtain ⟨f1, f2, f3, f4, f5, f6⟩ := f i z
        rw [List.getElem_append_left z, x3, x5, r7]
        have e1 : bRu d3.1 i = bRu d.1 i := (r9 i (by omega)).trans (if_neg (by omega))
        refine ⟨(if_neg (by omega)).trans f1, (if_neg (by omega)).trans f2, (if_neg (by omega)).trans f3, ?_⟩
        unfold LiAt
        rw [e1]
        refine ⟨f4, by omega, fun k hk => ?_⟩
        obtain ⟨p4, p5, p6⟩ := r13 ((bRu d.1 i).1 + k) (by omega)
        exact (f6 k hk).mono r12 p4 p5 p6
      · obtain rfl : i = ls.length := by omega
        rw [List.getElem_append_right (Nat.le_refl _), x3, x5, r7]
        simp only [Nat.sub_self, List.getElem_cons_zero]
        refine ⟨if_pos a3.symm, if_pos a3.symm, if_pos a3.symm, ?_⟩
        unfold LiAt
        rw [r9']
        exact ⟨rfl, Nat.le_of_eq r8.symm, r14⟩
    · rw [r8, ruN_app, g1]
      rfl
    · rw [ruN_app]
      show cSt d3.1 ≤ 23 * (ruN ls + (rs.length + 0))
      omega
    · rw [ruN_app]
      show nAn d3.1 ≤ 3 * (ruN ls + (rs.length + 0))
      omega
/-- lines, one after the other -/
def lbK : Nat → Nat → List (Nat × Nat)
  | _, 0 => []
  | a, n + 1 => [(0, 0), (39, nmL a), (31, 0)] ++ lbK (a + 1) n
def jsK : Nat → List EJa → List (Nat × Nat)
  | _, [] => []
  | k, x :: s => (jaK k x ++ [(31, 0)]) ++ jsK (k + 1) s
def lsK : Nat → List ELi → List (Nat × Nat)
  | _, [] => []
  | k, x :: s => (liK k x ++ [(31, 0)]) ++ lsK (k + 1) s
theorem ls_step {n : Nat} {d1 : DRF} {q : Nat} (hk : kdT K p ≠ 41) (e : lnP K (p, 0, et, d) = (q, 0, et, d1)) (h31 : kdT K q = 31) : lsP K (n + 1) (p, 0, et, d) = lsP K n (q + 1, 0, et, d1) := by
  show (if kdP K (p, 0, et, d) ≠ 41 ∧ (0 : Nat) ≠ 1 then lsP K n (tkP K 31 (lnP K (p, 0, et, d))) else _) = _
  rw [kd_go, if_pos ⟨hk, by decide⟩, e, tk_go h31]
theorem lb_all : ∀ (n a p : Nat) (d : DRF) (m : Nat), DrS a js ls d → a + n ≤ 6 → js.length ≤ 8 → ls.length ≤ 6 → PosL K p (lbK a n) → ∃ d', lsP K (m + n) (p, 0, et, d) = lsP K m (p + (lbK a n).length, 0, et, d') ∧ DrS (a + n) js ls d'
  | 0, a, p, d, m, h, _, _, _, _ => ⟨d, rfl, h⟩
  | n + 1, a, p, d, m, h, h6, hj, hl, q => by
    obtain ⟨q1, q2, q3, q4⟩ := q
    have k1 : kdT K p = 0 := q1.1
    obtain ⟨d1, e1, h1⟩ := ll_go (et := et) h (by omega) hj hl k1 q2.1 q2.2
    have s1 := ls_step (n := m + n) (by omega) e1 q3.1
    obtain ⟨d2, e2, h2⟩ := lb_all n (a + 1) (p + 1 + 1 + 1) d1 m h1 (by omega) hj hl q4
    refine ⟨d2, ?_, by rw [show a + (n + 1) = a + 1 + n by omega]; exact h2⟩
    rw [show m + (n + 1) = m + n + 1 by omega, s1, e2, show p + (lbK a (n + 1)).length = p + 1 + 1 + 1 + (lbK (a + 1) n).length by
      show p + ((lbK (a + 1) n).length + 1 + 1 + 1) = _
      omega]
theorem js_all (h6 : la ≤ 6) (hl : ls.length ≤ 6) : ∀ (s : List EJa) (js : List EJa) (p : Nat) (d : DRF) (m : Nat), DrS la js ls d → js.length + s.length ≤ 8 → (∀ x ∈ s, okJ la x) → PosL K p (jsK js.length s) → ∃ d', lsP K (m + s.length) (p, 0, et, d) = lsP K m (p + (jsK js.length s).length, 0, et, d') ∧ DrS la (js ++ s) ls d'
  | [], js, p, d, m, h, _, _, _ => ⟨d, rfl, by rw [List.append_nil]; exact h⟩
  | x :: s, js, p, d, m, h, h8, ok, q => by
    simp only [List.length_cons] at h8
    obtain ⟨q1, q2⟩ := PosL.app (a := jaK js.length x ++ [(31, 0)]) (b := jsK (js.length + 1) s) q
    obtain ⟨q1, q3, -⟩ := PosL.app q1
    have k1 : kdT K p = 1 := q1.1.1
    have k31 : kdT K (p + (jaK js.length x).length) = 31 := q3.1
    obtain ⟨d1, e1, h1⟩ := jl_go (et := et) h h6 (by omega) hl (ok x List.mem_cons_self) q1 k31
    have s1 := ls_step (n := m + s.length) (by omega) e1 k31
    have en : (js ++ [x]).length = js.length + 1 := by rw [List.length_append]; rfl
    rw [List.length_append] at q2
    obtain ⟨d2, e2, h2⟩ := js_all h6 hl s (js ++ [x]) (p + (jaK js.length x).length + 1) d1 m h1 (by omega) (fun y hy => ok y (List.mem_cons_of_mem _ hy)) (by rw [en]; exact q2)
    refine ⟨d2, ?_, by rw [List.append_assoc] at h2; exact h2⟩
    rw [show m + (x :: s).length = m + s.length + 1 by simp only [List.length_cons]; omega, s1, e2, en, show p + (jsK js.length (x :: s)).length = p + (jaK js.length x).length + 1 + (jsK (js.length + 1) s).length by
      show p + ((jaK js.length x ++ [(31, 0)]) ++ jsK (js.length + 1) s).length = _
      simp only [List.length_append, List.length_cons, List.length_nil]
      omega]
theorem li_all (h6 : la ≤ 6) (hj : js.length ≤ 8) : ∀ (s : List ELi) (ls : List ELi) (p : Nat) (d : DRF) (m : Nat), DrS la js ls d → ls.length + s.length ≤ 6 → ruN ls + ruN s ≤ 12 → (∀ x ∈ s, okI la js.length x) → PosL K p (lsK ls.length s) → ∃ d', lsP K (m + s.length) (p, 0, et, d) = lsP K m (p + (lsK ls.length s).length, 0, et, d') ∧ DrS la js (ls ++ s) d'
  | [], ls, p, d, m, h, _, _, _, _ => ⟨d, rfl, by rw [List.append_nil]; exact h⟩
  | x :: s, ls, p, d, m, h, h8, hr, ok, q => by
    simp only [List.length_cons] at h8
    have hr : ruN ls + (x.2.2.length + ruN s) ≤ 12 := hr
    obtain ⟨q1, q2⟩ := PosL.app (a := liK ls.length x ++ [(31, 0)]) (b := lsK (ls.length + 1) s) q
    obtain ⟨q1, q3, -⟩ := PosL.app q1
    have k1 : kdT K p = 5 := q1.1.1
    have k31 : kdT K (p + (liK ls.length x).length) = 31 := q3.1
    obtain ⟨d1, e1, h1⟩ := il_go (et := et) h h6 hj (by omega) (ok x List.mem_cons_self) (by omega) q1 k31
    have s1 := ls_step (n := m + s.length) (by omega) e1 k31
    have en : (ls ++ [x]).length = ls.length + 1 := by rw [List.length_append]; rfl
    have er : ruN (ls ++ [x]) = ruN ls + x.2.2.length := by rw [ruN_app]; rfl
    rw [List.length_append] at q2
    obtain ⟨d2, e2, h2⟩ := li_all h6 hj s (ls ++ [x]) (p + (liK ls.length x).length + 1) d1 m h1 (by omega) (by omega) (fun y hy => ok y (List.mem_cons_of_mem _ hy)) (by rw [en]; exact q2)
    refine ⟨d2, ?_, by rw [List.append_assoc] at h2; exact h2⟩
    rw [show m + (x :: s).length = m + s.length + 1 by simp only [List.length_cons]; omega, s1, e2, en, show p + (lsK ls.length (x :: s)).length = p + (liK ls.length x).length + 1 + (lsK (ls.length + 1) s).length by
      show p + ((liK ls.length x ++ [(31, 0)]) ++ lsK (ls.length + 1) s).length = _
      simp only [List.length_append, List.length_cons, List.length_nil]
      omega]
/-- all that is told: labels, jars, labels that come late, lids -/
def bkK (e la : Nat) (js : List EJa) (ls : List ELi) : List (Nat × Nat) := lbK 0 e ++ (jsK 0 js ++ (lbK e (la - e) ++ lsK 0 ls))
theorem DrS.z {w te tn ae O : Nat → Nat} : DrS 0 [] [] (dfZ w te tn ae O) := ⟨⟨rfl, rfl, rfl⟩, fun k hk => absurd hk (Nat.not_lt_zero k), fun k hk => absurd hk (Nat.not_lt_zero k), fun _ _ _ => rfl, fun k hk => absurd hk (Nat.not_lt_zero k), rfl, Nat.le_refl _, Nat.le_refl _⟩
theorem bk_all {e : Nat} {w te tn ae O : Nat → Nat} (he : e ≤ la) (h6 : la ≤ 6) (hj : js.length ≤ 4) (hl : ls.length ≤ 3) (hr : ruN ls ≤ 12) (okj : ∀ x ∈ js, okJ e x) (oki : ∀ x ∈ ls, okI la js.length x) (q : PosL K 0 (bkK e la js ls)) (h41 : kdT K (bkK e la js ls).length = 41) : ∃ d', lsP K 400 (0, 0, 0, dfZ w te tn ae O) = ((bkK e la js ls).length, 0, 0, d') ∧ DrS la js ls d' := by
  obtain ⟨q1, q2⟩ := PosL.app (a := lbK 0 e) q
  obtain ⟨q2, q3⟩ := PosL.app q2
  obtain ⟨q3, q4⟩ := PosL.app q3
  rw [Nat.zero_add] at q2 q3 q4
  obtain ⟨m0, E⟩ : ∃ m0, 400 = m0 + 1 + ls.length + (la - e) + js.length + e := ⟨399 - ls.length - (la - e) - js.length - e, by omega⟩
  rw [E]
  obtain ⟨d1, e1, h1⟩ := lb_all (K := K) (et := 0) (js := []) (ls := []) e 0 0 (dfZ w te tn ae O) (m0 + 1 + ls.length + (la - e) + js.length) DrS.z (by omega) (by decide) (by decide) q1
  rw [Nat.zero_add] at e1 h1
  obtain ⟨d2, e2, h2⟩ := js_all (K := K) (et := 0) (la := e) (ls := []) (by omega) (by decide) js [] (lbK 0 e).length d1 (m0 + 1 + ls.length + (la - e)) h1 (by simp only [List.length_nil]; omega) okj q2
  have h2 : DrS e js [] d2 := h2
  have e2 : lsP K (m0 + 1 + ls.length + (la - e) + js.length) ((lbK 0 e).length, 0, 0, d1) = lsP K (m0 + 1 + ls.length + (la - e)) ((lbK 0 e).length + (jsK 0 js).length, 0, 0, d2) := e2
  obtain ⟨d3, e3, h3⟩ := lb_all (K := K) (et := 0) (js := js) (ls := []) (la - e) e ((lbK 0 e).length + (jsK 0 js).length) d2 (m0 + 1 + ls.length) h2 (by omega) (by omega) (by decide) q3
  rw [show e + (la - e) = la by omega] at h3
  obtain ⟨d4, e4, h4⟩ := li_all (K := K) (et := 0) h6 (by omega) ls [] ((lbK 0 e).length + (jsK 0 js).length + (lbK e (la - e)).length) d3 (m0 + 1) h3 (by simp only [List.length_nil]; omega) (by show 0 + ruN ls ≤ 12; omega) oki q4
  have h4 : DrS la js ls d4 := h4
  have e4 : lsP K (m0 + 1 + ls.length) ((lbK 0 e).length + (jsK 0 js).length + (lbK e (la - e)).length, 0, 0, d3) = lsP K (m0 + 1) ((lbK 0 e).length + (jsK 0 js).length + (lbK e (la - e)).length + (lsK 0 ls).length, 0, 0, d4) := e4
  have el : (bkK e la js ls).length = (lbK 0 e).length + (jsK 0 js).length + (lbK e (la - e)).length + (lsK 0 ls).length := by
    unfold bkK
    simp only [List.length_append]
    omega
  rw [el] at h41 ⊢
  refine ⟨d4, ?_, h4⟩
  rw [e1, e2, e3, e4]
  show (if kdP K _ ≠ 41 ∧ (0 : Nat) ≠ 1 then _ else _) = _
  rw [kd_go, if_neg (fun z => z.1 h41)]
end LN3
